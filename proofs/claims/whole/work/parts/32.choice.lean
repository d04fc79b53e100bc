/-! WHAT A CALL LEAVES: outside the common row, and outside rows a .. b, nothing changes -/
def hK (a b : Nat) (I I' : Nat → Nat → Int32) : Prop := ∀ q j, ¬ (q = 16 ∧ j = 13) → q ≠ 27 → (q < a ∨ b < q) → I' q j = I q j
def lK (a b : Nat) (L L' : Nat → Nat → Int64) : Prop := ∀ q j, (q < a ∨ b < q) → L' q j = L q j
theorem hK_refl {a b : Nat} {I : Nat → Nat → Int32} : hK a b I I := fun _ _ _ _ _ => rfl
theorem lK_refl {a b : Nat} {L : Nat → Nat → Int64} : lK a b L L := fun _ _ _ => rfl
theorem hK_trans {a b : Nat} {I I1 I2 : Nat → Nat → Int32} (h : hK a b I I1) (k : hK a b I1 I2) : hK a b I I2 := fun q j h1 h2 h3 => (k q j h1 h2 h3).trans (h q j h1 h2 h3)
theorem lK_trans {a b : Nat} {L L1 L2 : Nat → Nat → Int64} (h : lK a b L L1) (k : lK a b L1 L2) : lK a b L L2 := fun q j h3 => (k q j h3).trans (h q j h3)
theorem hK_mono {a b a' b' : Nat} {I I1 : Nat → Nat → Int32} (ha : a' ≤ a) (hb : b ≤ b') (h : hK a b I I1) : hK a' b' I I1 := fun q j h1 h2 h3 => h q j h1 h2 (by omega)
theorem lK_mono {a b a' b' : Nat} {L L1 : Nat → Nat → Int64} (ha : a' ≤ a) (hb : b ≤ b') (h : lK a b L L1) : lK a' b' L L1 := fun q j h3 => h q j (by omega)
theorem hK_set {a b q j : Nat} {I I1 : Nat → Nat → Int32} {v : Int32} (h : hK a b I I1) (h1 : a ≤ q) (h2 : q ≤ b) : hK a b I (aU I1 q j v) := fun q' j' g1 g2 g3 => by rw [aU_n (by omega)]; exact h q' j' g1 g2 g3
theorem lK_set {a b q j : Nat} {L L1 : Nat → Nat → Int64} {v : Int64} (h : lK a b L L1) (h1 : a ≤ q) (h2 : q ≤ b) : lK a b L (aU L1 q j v) := fun q' j' g3 => by rw [aU_n (by omega)]; exact h q' j' g3
theorem hK_cm {a b : Nat} {I I1 : Nat → Nat → Int32} (h : cmKeep I I1) : hK a b I I1 := fun q j h1 h2 _ => h q j h1 h2
theorem hK_op {a b : Nat} {I I1 : Nat → Nat → Int32} (h : opKeep I I1) (h1 : a ≤ 40) (h2 : 40 ≤ b) : hK a b I I1 := fun q j _ _ h3 => h q j (by omega)
theorem cRep_hK {a b : Nat} {I I' : Nat → Nat → Int32} {s : jN} (h : hK a b I I') (ha : 27 < a) (hs : cRep I s) : cRep I' s := by
  obtain ⟨g1, g2, g3, g4, g5⟩ := hs
  have k : ∀ q j, ¬ (q = 16 ∧ j = 13) → q < 27 → I' q j = I q j := fun q j h1 h2 => h q j h1 (by omega) (by omega)
  refine ⟨⟨by rw [k 16 0 (by omega) (by omega)]; exact g1.1, fun i hi => by rw [k 17 i (by omega) (by omega), k 18 i (by omega) (by omega), k 19 i (by omega) (by omega), k 20 i (by omega) (by omega)]; exact g1.2 i hi⟩, g2, g3, ⟨by rw [k 16 5 (by omega) (by omega)]; exact g4.1, fun x q hq => ?_⟩, by rw [k 16 11 (by omega) (by omega)]; exact g5.1, fun x q m h1 h2 => by rw [k 26 _ (by omega) (by omega)]; exact g5.2 x q m h1 h2⟩
  obtain ⟨d1, d2, d3, d4, d5⟩ := g4.2 x q hq
  exact ⟨by rw [k 21 x (by omega) (by omega)]; exact d1, by rw [k 22 x (by omega) (by omega)]; exact d2, by rw [k 23 x (by omega) (by omega)]; exact d3, by rw [k 24 x (by omega) (by omega)]; exact d4, fun j m hj => by rw [k 25 _ (by omega) (by omega)]; exact d5 j m hj⟩
theorem rRep_hK {a b : Nat} {I I' : Nat → Nat → Int32} {r : jR} (h : hK a b I I') (ha : 27 < a) (hr : rRep I r) : rRep I' r := by
  have k : ∀ q j, q < 16 → I' q j = I q j := fun q j h1 => h q j (by omega) (by omega) (by omega)
  have keep : ∀ sl a b, slRep I sl a b → slRep I' sl a b := fun sl a b z => ⟨by rw [k 11 _ (by omega)]; exact z.1, by rw [k 12 _ (by omega)]; exact z.2.1, by rw [k 13 _ (by omega)]; exact z.2.2.1, fun p hp => by rw [k 14 _ (by omega)]; exact z.2.2.2 p hp⟩
  exact ⟨hr.1, fun c hc => ⟨by rw [k 15 c (by omega)]; exact (hr.2.1 c hc).1, fun i hi => keep _ _ _ ((hr.2.1 c hc).2 i hi)⟩, keep _ _ _ hr.2.2⟩
/-! THE CHOICE -/
abbrev jW : Type := Nat → Nat
def wOk (w : jW) : Prop := w 0 ≤ 1000000 ∧ ∀ i, 0 < i → i < 5 → w i ≤ 99
def wRep (I : Nat → Nat → Int32) (w : jW) : Prop := wOk w ∧ ∀ i, i < 5 → I 9 i = nI (w i)
theorem wRep_hK {a b : Nat} {I I' : Nat → Nat → Int32} {w : jW} (h : hK a b I I') (ha : 27 < a) (hw : wRep I w) : wRep I' w := ⟨hw.1, fun i hi => by rw [h 9 i (by omega) (by omega) (by omega)]; exact hw.2 i hi⟩
def jB (s : jN) (k : Nat) : Nat := ((jS s).getD k (0, 0)).1
theorem jB_of {s : jN} {k : Nat} {q : Nat × Nat} (h : (jS s)[k]? = some q) : jB s k = q.1 := by unfold jB; rw [getD_of h]
theorem jQ {s : jN} {k : Nat} (h : k < (jS s).length) : ∃ q, (jS s)[k]? = some q ∧ q.1 = jB s k := ⟨_, List.getElem?_eq_getElem h, (jB_of (List.getElem?_eq_getElem h)).symm⟩
def jCn (s : jN) (r : jR) (k : Nat) : Nat := min (jCo s r (jB s k)) 64
def ctRep (I : Nat → Nat → Int32) (s : jN) (r : jR) : Prop := ∀ k, k < (jS s).length → I 43 k = nI (jCn s r k)
theorem ctRep_hK {a b : Nat} {I I' : Nat → Nat → Int32} {s : jN} {r : jR} (h : hK a b I I') (ha : 27 < a) (hb : 43 < a ∨ b < 43) (hw : ctRep I s r) : ctRep I' s r := fun k hk => by rw [h 43 k (by omega) (by omega) (by omega)]; exact hw k hk
def jAh (s : jN) (r : jR) (w : jW) (k rd : Nat) : Int64 := (nI (w 0)).toInt64 * (jHarsh s r (jB s k) rd).toInt64
/-- a note's place above key 0, where the base of its set stands by equal steps -/
def jOff (s : jN) (r : jR) (k rd m : Nat) : Int32 := nI (10000 * s.2.1 (jBase s (jB s k))) + jTg s r (jB s k) rd m
def jDs (s : jN) (r : jR) (k rd o : Nat) : List Int64 := (jCm s k).map (fun m => (jOff s r (k + 1) o m - jOff s r k rd m).toInt64)
def jSum (l : List Int64) : Int64 := l.foldl (fun a d => a + d) 0
def jSq (l : List Int64) : Int64 := l.foldl (fun a d => a + d * d) 0
def jStr2 (l : List Int64) : Int64 := if l.length = 0 then 0 else (nI (60 / l.length)).toInt64 * ((nI l.length).toInt64 * jSq l - jSum l * jSum l)
def jStrain (s : jN) (r : jR) (k rd o : Nat) : Int64 := jStr2 (jDs s r k rd o)
/-- the least of the first n, and the first that has it; 2 to the power of 62 if none is below -/
def jMin (f : Nat → Int64) : Nat → Int64 × Nat
  | 0 => (4611686018427387904, 0)
  | n + 1 => if f n < (jMin f n).1 then (f n, n) else jMin f n
theorem jMin_lt (f : Nat → Int64) : ∀ n, 0 < n → (jMin f n).2 < n
  | 0, h => by omega
  | n + 1, _ => by
    unfold jMin
    split
    · exact Nat.lt_succ_self n
    · rcases Nat.eq_zero_or_pos n with z | z
      · subst z; exact Nat.lt_succ_self 0
      · have := jMin_lt f n z; omega
def jArg (f : Nat → Int64) : Nat → Nat
  | 0 => 0
  | n + 1 => if f n < f (jArg f n) then n else jArg f n
theorem jArg_lt (f : Nat → Int64) : ∀ n, 0 < n → jArg f n < n
  | 0, h => by omega
  | n + 1, _ => by
    unfold jArg
    split
    · exact Nat.lt_succ_self n
    · rcases Nat.eq_zero_or_pos n with z | z
      · subst z; exact Nat.lt_succ_self 0
      · have := jArg_lt f n z; omega
/-- the costs from a set on: d sets are behind it -/
def jCost (s : jN) (r : jR) (w : jW) : Nat → Nat → Int64
  | 0, rd => jAh s r w ((jS s).length - 1) rd
  | d + 1, rd => jAh s r w ((jS s).length - 1 - (d + 1)) rd + (jMin (fun o => jCost s r w d o + (nI (w 1)).toInt64 * jStrain s r ((jS s).length - 1 - (d + 1)) rd o) (jCn s r ((jS s).length - 1 - (d + 1) + 1))).1
/-- what goes on from a reading of set k to one of the next -/
def jGo (s : jN) (r : jR) (w : jW) (k rd o : Nat) : Int64 := jCost s r w ((jS s).length - 1 - (k + 1)) o + (nI (w 1)).toInt64 * jStrain s r k rd o
def jFol (s : jN) (r : jR) (w : jW) (k rd : Nat) : Nat := (jMin (jGo s r w k rd) (jCn s r (k + 1))).2
def jChs (s : jN) (r : jR) (w : jW) : Nat → Nat
  | 0 => jArg (jCost s r w ((jS s).length - 1)) (jCn s r 0)
  | k + 1 => jFol s r w k (jChs s r w k)
/-- no skipped reading is the least: STRAIN never makes less -/
def jNs (s : jN) (r : jR) (w : jW) : Prop := ∀ k rd o, k + 1 < (jS s).length → rd < jCn s r k → o < jCn s r (k + 1) → jCost s r w ((jS s).length - 1 - (k + 1)) o ≤ jGo s r w k rd o
theorem jCn_le {s : jN} {r : jR} {k : Nat} : jCn s r k ≤ 64 := Nat.min_le_right _ _
theorem jCm_mem {s : jN} {k j m : Nat} {q q1 : Nat × Nat} (hq : (jS s)[k]? = some q) (hq1 : (jS s)[k + 1]? = some q1) (h : (jCm s k)[j]? = some m) : m < s.1 ∧ jOn s m q.1 = true ∧ jOn s m q1.1 = true := by
  have h1 := List.mem_of_getElem? h
  unfold jCm at h1
  rw [getD_of hq, getD_of hq1] at h1
  obtain ⟨h2, h3⟩ := List.mem_filter.mp h1
  have h4 := jML_mem.mp h2
  exact ⟨h4.1, h4.2, h3⟩
theorem jCm_len {s : jN} (h6 : jSix s) {k : Nat} : (jCm s k).length ≤ 6 := by
  unfold jCm
  refine Nat.le_trans (List.length_filter_le _ _) ?_
  rw [jMem_len]
  exact h6 _
theorem jCm_at {s : jN} {k i : Nat} (h : i < (jCm s k).length) : ∃ m, (jCm s k)[i]? = some m := ⟨_, List.getElem?_eq_getElem h⟩
set_option maxHeartbeats 1000000 in
theorem l_countReadings {I : Nat → Nat → Int32} {L : Nat → Nat → Int64} {R : Nat → Nat → Option Nat} (hR : aRf R) {s : jN} (hc : cRep I s) {r : jR} (hr : rRep I r) : ∀ (k9 k : Nat), k ≤ (jS s).length → ((jS s).length) - k = k9 → ∀ (I1 : Nat → Nat → Int32), (∀ j, j < k → I1 43 j = nI (jCn s r j)) → hK 43 43 I I1 → aX mX1_countReadings aE0 (sh0, I1, L, R) 2 [(0, .ref 41), (1, .int (nI (k)))] [] 0 0 (fun ans h' => ans = none ∧ ∃ I', h' = (sh0, I', L, R) ∧ ctRep I' s r ∧ hK 43 43 I I') := by
  intro k9
  induction k9 using Nat.strongRecOn with
  | _ k9 ih =>
    intro k hi hk9 I1  hct hkp
    obtain ⟨hs, ho, h6, hS, hV⟩ := id hc
    have hn := ho.1
    have hSl := jS_len s
    have hc1 := cRep_hK hkp (by decide) hc
    have hr1 := rRep_hK hkp (by decide) hr
    obtain ⟨hs1, ho1, h61, hS1, hV1⟩ := id hc1
    refine aX_iload_n dX1_countReadings_2 rfl ?_
    refine aX_aload_n dX1_countReadings_3 rfl ?_
    refine aX_get dX1_countReadings_4 lfX1_34 s41 (f41_0 hR) ?_
    refine aX_get (v := .int (nI ((jS s).length))) dX1_countReadings_7 lfX1_48 s16 (congrArg Value.int (hS1.1)) ?_
    refine nGe (tgt := 38) dX1_countReadings_10 (by decide) (by first | omega | exact Nat.lt_of_le_of_lt (Nat.mod_le _ _) (by omega)) (by first | omega | exact Nat.lt_of_le_of_lt (Nat.mod_le _ _) (by omega)) (fun c1 => ?_) (fun c1 => ?_)
    · exact rV dX1_countReadings_38 rfl (⟨rfl, I1, rfl, fun j hj => hct j (by omega), hkp⟩)
    · obtain ⟨q, hq, hqb⟩ := jQ c1
      have h729 := jCo_729 (s := s) (b := q.1) h6 hr.1
      refine aX_aload_n dX1_countReadings_13 rfl ?_
      refine aX_get dX1_countReadings_14 lfX1_15 s41 (f41_4 hR) ?_
      refine aX_iload_n dX1_countReadings_17 rfl ?_
      refine aX_aload_n dX1_countReadings_18 rfl ?_
      refine aX_get dX1_countReadings_19 lfX1_38 s41 (f41_1 hR) ?_
      refine aX_iload_n dX1_countReadings_22 rfl ?_
      refine cVp (As := [.int (nI (k))]) (st := [.int (nI (k)), .ref 43]) (v := .int (nI (jCo s r q.1))) dX1_countReadings_23 kX1_countReadings_71 s39 aEok0 rfl rfl (Nat.le_of_ble_eq_true rfl) (c_countOf hR hc1 hq hr1) ?_
      refine aX_bipush (v := nI 64) dX1_countReadings_26 (by decide) ?_
      refine cSp (As := [.int (nI (jCo s r q.1)), .int (nI (64))]) (st := [.int (nI (k)), .ref 43]) (v := .int (nI (min (jCo s r q.1) 64))) dX1_countReadings_28 kX1_countReadings_77 aEok0 rfl rfl (Nat.le_of_ble_eq_true rfl) (c_min (by omega) (by omega)) ?_
      refine nIast dX1_countReadings_31 s43 (by first | omega | exact Nat.lt_of_le_of_lt (Nat.mod_le _ _) (by omega)) (by decide) ?_
      refine nInc (lv' := [(0, .ref 41), (1, .int (nI (k + 1)))]) dX1_countReadings_32 rfl rfl (by decide) rfl ?_
      refine aX_goto (tgt := 2) dX1_countReadings_35 (by decide) ?_
      exact ih ((jS s).length - (k + 1)) (by omega) (k + 1) (by omega) rfl _ (fun j hj => by
        by_cases e : j = k
        · subst e; rw [aU_s]; unfold jCn; rw [← hqb]
        · rw [aU_n (by omega)]; exact hct j (by omega)) (hK_set hkp (by decide) (by decide))
set_option maxHeartbeats 1000000 in
theorem c_countReadings {I : Nat → Nat → Int32} {L : Nat → Nat → Int64} {R : Nat → Nat → Option Nat} (hR : aRf R) {s : jN} (hc : cRep I s) {r : jR} (hr : rRep I r) : aM mX1_countReadings [.ref 41] (sh0, I, L, R) (fun ans h' => ans = none ∧ ∃ I', h' = (sh0, I', L, R) ∧ ctRep I' s r ∧ hK 43 43 I I') := by
  refine aM_of plX1_countReadings (Nat.le_of_ble_eq_true rfl) ?_
  refine aX_iconst (v := nI 0) dX1_countReadings_0 (by decide) ?_
  refine aX_istore_n (lv' := [(0, .ref 41), (1, .int (nI (0)))]) dX1_countReadings_1 (by decide) rfl ?_
  exact l_countReadings hR hc hr _ 0 (by omega) rfl I (fun j hj => by omega) hK_refl
set_option maxHeartbeats 1000000 in
theorem l_weigh {I : Nat → Nat → Int32} {L : Nat → Nat → Int64} {R : Nat → Nat → Option Nat} (hR : aRf R) {s : jN} (hc : cRep I s) {r : jR} (hr : rRep I r) {w : jW} (hw : wRep I w) {k : Nat} (hk : k < (jS s).length) (hct : ctRep I s r) : ∀ (k9 i : Nat), i ≤ jCn s r k → (jCn s r k) - i = k9 → ∀ (I1 : Nat → Nat → Int32) (L1 : Nat → Nat → Int64), (∀ j, j < i → L1 44 j = jAh s r w k j) → hK 40 40 I I1 → lK 44 44 L L1 → aX mX1_weighReadings aE0 (sh0, I1, L1, R) 2 [(0, .ref 41), (1, .int (nI (k))), (2, .int (nI (i)))] [] 0 0 (fun ans h' => ans = none ∧ ∃ I' L', h' = (sh0, I', L', R) ∧ (∀ rd, rd < jCn s r k → L' 44 rd = jAh s r w k rd) ∧ hK 40 40 I I' ∧ lK 44 44 L L') := by
  intro k9
  induction k9 using Nat.strongRecOn with
  | _ k9 ih =>
    intro i hi hk9 I1  L1  hL hkp hkl
    obtain ⟨hs, ho, h6, hS, hV⟩ := id hc
    have hn := ho.1
    have hSl := jS_len s
    have hc1 := cRep_hK hkp (by decide) hc
    have hr1 := rRep_hK hkp (by decide) hr
    obtain ⟨hs1, ho1, h61, hS1, hV1⟩ := id hc1
    obtain ⟨q, hq, hqb⟩ := jQ hk
    have hcl := jCn_le (s := s) (r := r) (k := k)
    refine aX_iload_n dX1_weighReadings_2 rfl ?_
    refine aX_aload_n dX1_weighReadings_3 rfl ?_
    refine aX_get dX1_weighReadings_4 lfX1_15 s41 (f41_4 hR) ?_
    refine aX_iload_n dX1_weighReadings_7 rfl ?_
    refine nIald (v := nI (jCn s r k)) dX1_weighReadings_8 s43 (by first | omega | exact Nat.lt_of_le_of_lt (Nat.mod_le _ _) (by omega)) (by decide) ((hkp 43 k (by omega) (by omega) (by omega)).trans (hct k hk)) ?_
    refine nGe (tgt := 50) dX1_weighReadings_9 (by decide) (by first | omega | exact Nat.lt_of_le_of_lt (Nat.mod_le _ _) (by omega)) (by first | omega | exact Nat.lt_of_le_of_lt (Nat.mod_le _ _) (by omega)) (fun c1 => ?_) (fun c1 => ?_)
    · exact rV dX1_weighReadings_50 rfl (⟨rfl, I1, L1, rfl, fun j hj => hL j (by omega), hkp, hkl⟩)
    · refine aX_aload_n dX1_weighReadings_12 rfl ?_
      refine aX_get dX1_weighReadings_13 lfX1_38 s41 (f41_1 hR) ?_
      refine aX_iload_n dX1_weighReadings_16 rfl ?_
      refine aX_iload_n dX1_weighReadings_17 rfl ?_
      refine cV (As := [.int (nI (k)), .int (nI (i))]) (st := []) dX1_weighReadings_18 kX1_weighReadings_83 s39 aEok0 rfl rfl (Nat.le_of_ble_eq_true rfl) (c_open hR hc1 hq hr1 (by omega)) (fun r h' hq => ?_)
      obtain ⟨rfl, I2, rfl, hop, hkp2⟩ := hq
      have hkp3 := hK_trans hkp (hK_op (a := 40) (b := 40) hkp2 (by decide) (by decide))
      refine ⟨rfl, ?_⟩
      have hc2 := cRep_hK hkp3 (by decide) hc
      have hr2 := rRep_hK hkp3 (by decide) hr
      have hw2 := wRep_hK hkp3 (by decide) hw
      refine aX_aload_n dX1_weighReadings_21 rfl ?_
      refine aX_get dX1_weighReadings_22 lfX1_18 s41 (f41_5 hR) ?_
      refine aX_iload_n dX1_weighReadings_25 rfl ?_
      refine aX_aload_n dX1_weighReadings_26 rfl ?_
      refine aX_get dX1_weighReadings_27 lfX1_42 s41 (f41_2 hR) ?_
      refine aX_iconst (v := nI 0) dX1_weighReadings_30 (by decide) ?_
      refine nIald (v := nI (w 0)) dX1_weighReadings_31 s9 (by first | omega | exact Nat.lt_of_le_of_lt (Nat.mod_le _ _) (by omega)) (by decide) (hw2.2 0 (by decide)) ?_
      refine aX_i2l dX1_weighReadings_32 ?_
      refine aX_aload_n dX1_weighReadings_33 rfl ?_
      refine aX_get dX1_weighReadings_34 lfX1_38 s41 (f41_1 hR) ?_
      refine aX_iload_n dX1_weighReadings_37 rfl ?_
      refine cVp (As := [.int (nI (k))]) (st := [.long ((nI (w 0)).toInt64), .int (nI (i)), .ref 44]) (v := .int (jHarsh s r q.1 i)) dX1_weighReadings_38 kX1_weighReadings_87 s39 aEok0 rfl rfl (Nat.le_of_ble_eq_true rfl) (c_rharsh hR hc2 hq hr2 hop) ?_
      refine aX_i2l dX1_weighReadings_41 ?_
      refine aX_lmul dX1_weighReadings_42 ?_
      refine nLast dX1_weighReadings_43 s44 (by first | omega | exact Nat.lt_of_le_of_lt (Nat.mod_le _ _) (by omega)) (by decide) ?_
      refine nInc (lv' := [(0, .ref 41), (1, .int (nI (k))), (2, .int (nI (i + 1)))]) dX1_weighReadings_44 rfl rfl (by decide) rfl ?_
      refine aX_goto (tgt := 2) dX1_weighReadings_47 (by decide) ?_
      exact ih (jCn s r k - (i + 1)) (by omega) (i + 1) (by omega) rfl I2 _ (fun j hj => by
        by_cases e : j = i
        · subst e; rw [aU_s]; unfold jAh; rw [← hqb]
        · rw [aU_n (by omega)]; exact hL j (by omega)) hkp3 (lK_set hkl (by decide) (by decide))
set_option maxHeartbeats 1000000 in
theorem c_weigh {I : Nat → Nat → Int32} {L : Nat → Nat → Int64} {R : Nat → Nat → Option Nat} (hR : aRf R) {s : jN} (hc : cRep I s) {r : jR} (hr : rRep I r) {w : jW} (hw : wRep I w) {k : Nat} (hk : k < (jS s).length) (hct : ctRep I s r) : aM mX1_weighReadings [.ref 41, .int (nI k)] (sh0, I, L, R) (fun ans h' => ans = none ∧ ∃ I' L', h' = (sh0, I', L', R) ∧ (∀ rd, rd < jCn s r k → L' 44 rd = jAh s r w k rd) ∧ hK 40 40 I I' ∧ lK 44 44 L L') := by
  refine aM_of plX1_weighReadings (Nat.le_of_ble_eq_true rfl) ?_
  refine aX_iconst (v := nI 0) dX1_weighReadings_0 (by decide) ?_
  refine aX_istore_n (lv' := [(0, .ref 41), (1, .int (nI (k))), (2, .int (nI (0)))]) dX1_weighReadings_1 (by decide) rfl ?_
  exact l_weigh hR hc hr hw hk hct _ 0 (by omega) rfl I L (fun j hj => by omega) hK_refl lK_refl
set_option maxHeartbeats 1000000 in
theorem l_fillIn47 {I : Nat → Nat → Int32} {L : Nat → Nat → Int64} {R : Nat → Nat → Option Nat} (hR : aRf R) {s : jN} (hc : cRep I s) {r : jR} (hr : rRep I r) {k : Nat} (hk : k < (jS s).length) {cm : List Nat} (hcm : cmRep I cm) (hcl6 : cm.length ≤ 6) (hcq : ∀ (j m : Nat), cm[j]? = some m → m < s.1 ∧ jOn s m (jB s k) = true) (hct : ctRep I s r) {rd : Nat} (hrd : rd < jCn s r k) {Q : Option Value → aH → Prop} (kk : ∀ I1 : Nat → Nat → Int32, (∀ (rd9 j m : Nat), rd9 < rd + 1 → cm[j]? = some m → I1 47 (rd9 * 6 + j) = jOff s r k rd9 m) → (∀ q j, q ≠ 40 → q ≠ 47 → I1 q j = I q j) → aX mX1_fillOffsets aE0 (sh0, I1, L, R) 88 [(0, .ref 41), (1, .int (nI k)), (2, .ref 47), (3, .int (nI (10000 * s.2.1 (jBase s (jB s k))))), (4, .int (nI rd)), (5, .int (nI cm.length))] [] 0 0 Q) : ∀ (k9 i : Nat), i ≤ cm.length → cm.length - i = k9 → ∀ (I1 : Nat → Nat → Int32), (∀ (rd9 j m : Nat), rd9 < rd → cm[j]? = some m → I1 47 (rd9 * 6 + j) = jOff s r k rd9 m) → (∀ (j m : Nat), j < i → cm[j]? = some m → I1 47 (rd * 6 + j) = jOff s r k rd m) → (∀ q j, q ≠ 40 → q ≠ 47 → I1 q j = I q j) → opRep I1 s r (jB s k) rd → aX mX1_fillOffsets aE0 (sh0, I1, L, R) 40 [(0, .ref 41), (1, .int (nI (k))), (2, .ref 47), (3, .int (nI (10000 * s.2.1 (jBase s (jB s k))))), (4, .int (nI (rd))), (5, .int (nI (i)))] [] 0 0 Q := by
  intro k9
  induction k9 using Nat.strongRecOn with
  | _ k9 ih =>
    intro i hi hk9 I1  hdn hin hke hop
    obtain ⟨hs, ho, h6, hS, hV⟩ := id hc
    have hn := ho.1
    have hSl := jS_len s
    obtain ⟨q, hq, hqb⟩ := jQ hk
    have hb9 := jS_in hq
    have hcl := jCn_le (s := s) (r := r) (k := k)
    have hkp : hK 40 48 I I1 := fun q j _ _ h3 => hke q j (by omega) (by omega)
    have hc1 := cRep_hK hkp (by decide) hc
    have hr1 := rRep_hK hkp (by decide) hr
    obtain ⟨hs1, ho1, h61, hS1, hV1⟩ := id hc1
    have hcc := hcm.1
    refine aX_iload dX1_fillOffsets_40 rfl ?_
    refine aX_aload_n dX1_fillOffsets_42 rfl ?_
    refine aX_get dX1_fillOffsets_43 lfX1_34 s41 (f41_0 hR) ?_
    refine aX_get (v := .int (nI (cm.length))) dX1_fillOffsets_46 lfX1_103 s16 (congrArg Value.int ((hke 16 13 (by omega) (by omega)).trans hcc)) ?_
    refine nGe (tgt := 88) dX1_fillOffsets_49 (by decide) (by first | omega | exact Nat.lt_of_le_of_lt (Nat.mod_le _ _) (by omega)) (by first | omega | exact Nat.lt_of_le_of_lt (Nat.mod_le _ _) (by omega)) (fun c1 => ?_) (fun c1 => ?_)
    · obtain rfl : i = cm.length := by omega
      exact kk I1 (fun rd9 j m9 h1 h2 => by
        by_cases e : rd9 = rd
        · subst e; exact hin j m9 (List.getElem?_eq_some_iff.mp h2).1 h2
        · exact hdn rd9 j m9 (by omega) h2) hke
    · obtain ⟨m, hm⟩ : ∃ m, cm[i]? = some m := ⟨_, List.getElem?_eq_getElem c1⟩
      have hmq := hcq i m hm
      rw [← hqb] at hmq
      refine aX_aload_n dX1_fillOffsets_52 rfl ?_
      refine aX_iload dX1_fillOffsets_53 rfl ?_
      refine aX_bipush (v := nI 6) dX1_fillOffsets_55 (by decide) ?_
      refine nMul dX1_fillOffsets_57 ?_
      refine aX_iload dX1_fillOffsets_58 rfl ?_
      refine nAdd dX1_fillOffsets_60 ?_
      refine aX_iload_n dX1_fillOffsets_61 rfl ?_
      refine aX_aload_n dX1_fillOffsets_62 rfl ?_
      refine aX_get dX1_fillOffsets_63 lfX1_38 s41 (f41_1 hR) ?_
      refine aX_iload_n dX1_fillOffsets_66 rfl ?_
      refine aX_aload_n dX1_fillOffsets_67 rfl ?_
      refine aX_get dX1_fillOffsets_68 lfX1_34 s41 (f41_0 hR) ?_
      refine aX_get dX1_fillOffsets_71 lfX1_106 s16 (f16_14 hR) ?_
      refine aX_iload dX1_fillOffsets_74 rfl ?_
      refine nIald (v := nI (m)) dX1_fillOffsets_76 s27 (by first | omega | exact Nat.lt_of_le_of_lt (Nat.mod_le _ _) (by omega)) (by decide) ((hke 27 i (by omega) (by omega)).trans (hcm.2 i m hm)) ?_
      refine cVp (As := [.int (nI (k)), .int (nI (m))]) (st := [.int (nI (10000 * s.2.1 (jBase s (jB s k)))), .int (nI ((rd * 6) + i)), .ref 47]) (v := .int (jTg s r q.1 rd m)) dX1_fillOffsets_77 kX1_fillOffsets_109 s39 aEok0 rfl rfl (Nat.le_of_ble_eq_true rfl) (c_targetOf hR hc1 hq hmq.1 hmq.2 hr1 (by rw [hqb]; exact hop)) ?_
      refine aX_iadd dX1_fillOffsets_80 ?_
      refine nIast dX1_fillOffsets_81 s47 (by first | omega | exact Nat.lt_of_le_of_lt (Nat.mod_le _ _) (by omega)) (by decide) ?_
      refine nInc (lv' := [(0, .ref 41), (1, .int (nI (k))), (2, .ref 47), (3, .int (nI (10000 * s.2.1 (jBase s (jB s k))))), (4, .int (nI (rd))), (5, .int (nI (i + 1)))]) dX1_fillOffsets_82 rfl rfl (by decide) rfl ?_
      refine aX_goto (tgt := 40) dX1_fillOffsets_85 (by decide) ?_
      exact ih (cm.length - (i + 1)) (by omega) (i + 1) (by omega) rfl _ (fun rd9 j m9 h1 h2 => by rw [aU_n (by have := (List.getElem?_eq_some_iff.mp h2).1; omega)]; exact hdn rd9 j m9 h1 h2) (fun j m9 h1 h2 => by
        by_cases e : j = i
        · subst e; rw [aU_s]; rw [hm] at h2; cases h2; unfold jOff; rw [← hqb]
        · rw [aU_n (by omega)]; exact hin j m9 (by omega) h2) (fun q9 j h1 h2 => by rw [aU_n (by omega)]; exact hke q9 j h1 h2) (fun x hx => hop x hx)
set_option maxHeartbeats 1000000 in
theorem l_fill47 {I : Nat → Nat → Int32} {L : Nat → Nat → Int64} {R : Nat → Nat → Option Nat} (hR : aRf R) {s : jN} (hc : cRep I s) {r : jR} (hr : rRep I r) {k : Nat} (hk : k < (jS s).length) {cm : List Nat} (hcm : cmRep I cm) (hcl6 : cm.length ≤ 6) (hcq : ∀ (j m : Nat), cm[j]? = some m → m < s.1 ∧ jOn s m (jB s k) = true) (hct : ctRep I s r) : ∀ (k9 i : Nat), i ≤ jCn s r k → (jCn s r k) - i = k9 → ∀ (I1 : Nat → Nat → Int32), (∀ (rd9 j m : Nat), rd9 < i → cm[j]? = some m → I1 47 (rd9 * 6 + j) = jOff s r k rd9 m) → (∀ q j, q ≠ 40 → q ≠ 47 → I1 q j = I q j) → aX mX1_fillOffsets aE0 (sh0, I1, L, R) 16 [(0, .ref 41), (1, .int (nI (k))), (2, .ref 47), (3, .int (nI (10000 * s.2.1 (jBase s (jB s k))))), (4, .int (nI (i)))] [] 0 0 (fun ans h' => ans = none ∧ ∃ I', h' = (sh0, I', L, R) ∧ (∀ (rd j m : Nat), rd < jCn s r k → cm[j]? = some m → I' 47 (rd * 6 + j) = jOff s r k rd m) ∧ (∀ q j, q ≠ 40 → q ≠ 47 → I' q j = I q j)) := by
  intro k9
  induction k9 using Nat.strongRecOn with
  | _ k9 ih =>
    intro i hi hk9 I1  hdn hke
    obtain ⟨hs, ho, h6, hS, hV⟩ := id hc
    have hn := ho.1
    have hSl := jS_len s
    obtain ⟨q, hq, hqb⟩ := jQ hk
    have hb9 := jS_in hq
    have hcl := jCn_le (s := s) (r := r) (k := k)
    have hkp : hK 40 48 I I1 := fun q j _ _ h3 => hke q j (by omega) (by omega)
    have hc1 := cRep_hK hkp (by decide) hc
    have hr1 := rRep_hK hkp (by decide) hr
    obtain ⟨hs1, ho1, h61, hS1, hV1⟩ := id hc1
    have hcc := hcm.1
    refine aX_iload dX1_fillOffsets_16 rfl ?_
    refine aX_aload_n dX1_fillOffsets_18 rfl ?_
    refine aX_get dX1_fillOffsets_19 lfX1_15 s41 (f41_4 hR) ?_
    refine aX_iload_n dX1_fillOffsets_22 rfl ?_
    refine nIald (v := nI (jCn s r k)) dX1_fillOffsets_23 s43 (by first | omega | exact Nat.lt_of_le_of_lt (Nat.mod_le _ _) (by omega)) (by decide) ((hke 43 k (by omega) (by omega)).trans (hct k hk)) ?_
    refine nGe (tgt := 94) dX1_fillOffsets_24 (by decide) (by first | omega | exact Nat.lt_of_le_of_lt (Nat.mod_le _ _) (by omega)) (by first | omega | exact Nat.lt_of_le_of_lt (Nat.mod_le _ _) (by omega)) (fun c1 => ?_) (fun c1 => ?_)
    · exact rV dX1_fillOffsets_94 rfl (⟨rfl, I1, rfl, fun rd j m h1 h2 => hdn rd j m (by omega) h2, hke⟩)
    · refine aX_aload_n dX1_fillOffsets_27 rfl ?_
      refine aX_get dX1_fillOffsets_28 lfX1_38 s41 (f41_1 hR) ?_
      refine aX_iload_n dX1_fillOffsets_31 rfl ?_
      refine aX_iload dX1_fillOffsets_32 rfl ?_
      refine cV (As := [.int (nI (k)), .int (nI (i))]) (st := []) dX1_fillOffsets_34 kX1_fillOffsets_83 s39 aEok0 rfl rfl (Nat.le_of_ble_eq_true rfl) (c_open hR hc1 hq hr1 (by omega)) (fun r h' hq9 => ?_)
      obtain ⟨rfl, I2, rfl, hop, hkp2⟩ := hq9
      refine ⟨rfl, ?_⟩
      have hke2 : ∀ q j, q ≠ 40 → q ≠ 47 → I2 q j = I q j := fun q j h1 h2 => (hkp2 q j h1).trans (hke q j h1 h2)
      refine aX_iconst (v := nI 0) dX1_fillOffsets_37 (by decide) ?_
      refine aX_istore (lv' := [(0, .ref 41), (1, .int (nI (k))), (2, .ref 47), (3, .int (nI (10000 * s.2.1 (jBase s (jB s k))))), (4, .int (nI (i))), (5, .int (nI (0)))]) dX1_fillOffsets_38 (by decide) rfl ?_
      refine l_fillIn47 hR hc hr hk hcm hcl6 hcq hct (rd := i) (by omega) (fun I3 hd3 hk3 => ?_) _ 0 (by omega) rfl I2 (fun rd9 j m9 h1 h2 => by rw [hkp2 _ _ (by decide)]; exact hdn rd9 j m9 h1 h2) (fun j m h1 _ => by omega) hke2 (by rw [← hqb]; exact hop)
      refine nInc (lv' := [(0, .ref 41), (1, .int (nI (k))), (2, .ref 47), (3, .int (nI (10000 * s.2.1 (jBase s (jB s k))))), (4, .int (nI (i + 1))), (5, .int (nI (cm.length)))]) dX1_fillOffsets_88 rfl rfl (by decide) rfl ?_
      refine aX_goto (tgt := 16) dX1_fillOffsets_91 (by decide) ?_
      refine aX_lv (lv' := [(0, .ref 41), (1, .int (nI k)), (2, .ref 47), (3, .int (nI (10000 * s.2.1 (jBase s (jB s k))))), (4, .int (nI (i + 1)))]) [0, 1, 2, 3, 4] rfl ?_
      exact ih (jCn s r k - (i + 1)) (by omega) (i + 1) (by omega) rfl I3 hd3 hk3
set_option maxHeartbeats 1000000 in
theorem c_fill47 {I : Nat → Nat → Int32} {L : Nat → Nat → Int64} {R : Nat → Nat → Option Nat} (hR : aRf R) {s : jN} (hc : cRep I s) {r : jR} (hr : rRep I r) {k : Nat} (hk : k < (jS s).length) {cm : List Nat} (hcm : cmRep I cm) (hcl6 : cm.length ≤ 6) (hcq : ∀ (j m : Nat), cm[j]? = some m → m < s.1 ∧ jOn s m (jB s k) = true) (hct : ctRep I s r) : aM mX1_fillOffsets [.ref 41, .int (nI k), .ref 47] (sh0, I, L, R) (fun ans h' => ans = none ∧ ∃ I', h' = (sh0, I', L, R) ∧ (∀ (rd j m : Nat), rd < jCn s r k → cm[j]? = some m → I' 47 (rd * 6 + j) = jOff s r k rd m) ∧ (∀ q j, q ≠ 40 → q ≠ 47 → I' q j = I q j)) := by
  obtain ⟨q, hq, hqb⟩ := jQ hk
  refine aM_of plX1_fillOffsets (Nat.le_of_ble_eq_true rfl) ?_
  refine aX_sipush (v := nI 10000) dX1_fillOffsets_0 (by decide) ?_
  refine aX_aload_n dX1_fillOffsets_3 rfl ?_
  refine aX_get dX1_fillOffsets_4 lfX1_34 s41 (f41_0 hR) ?_
  refine aX_iload_n dX1_fillOffsets_7 rfl ?_
  refine cVp (As := [.int (nI (k))]) (st := [.int (nI (10000))]) (v := .int (nI (s.2.1 (jBase s q.1)))) dX1_fillOffsets_8 kX1_fillOffsets_100 s16 aEok0 rfl rfl (Nat.le_of_ble_eq_true rfl) (c_baseKey hR hc hq) ?_
  refine nMul dX1_fillOffsets_11 ?_
  refine aX_istore_n (lv' := [(0, .ref 41), (1, .int (nI (k))), (2, .ref 47), (3, .int (nI (10000 * (s.2.1 (jBase s q.1)))))]) dX1_fillOffsets_12 (by decide) rfl ?_
  refine aX_iconst (v := nI 0) dX1_fillOffsets_13 (by decide) ?_
  refine aX_istore (lv' := [(0, .ref 41), (1, .int (nI (k))), (2, .ref 47), (3, .int (nI (10000 * (s.2.1 (jBase s q.1))))), (4, .int (nI (0)))]) dX1_fillOffsets_14 (by decide) rfl ?_
  rw [hqb]
  exact l_fill47 hR hc hr hk hcm hcl6 hcq hct _ 0 (by omega) rfl I (fun rd j m h1 _ => by omega) (fun _ _ _ _ => rfl)
set_option maxHeartbeats 1000000 in
theorem l_fillIn48 {I : Nat → Nat → Int32} {L : Nat → Nat → Int64} {R : Nat → Nat → Option Nat} (hR : aRf R) {s : jN} (hc : cRep I s) {r : jR} (hr : rRep I r) {k : Nat} (hk : k < (jS s).length) {cm : List Nat} (hcm : cmRep I cm) (hcl6 : cm.length ≤ 6) (hcq : ∀ (j m : Nat), cm[j]? = some m → m < s.1 ∧ jOn s m (jB s k) = true) (hct : ctRep I s r) {rd : Nat} (hrd : rd < jCn s r k) {Q : Option Value → aH → Prop} (kk : ∀ I1 : Nat → Nat → Int32, (∀ (rd9 j m : Nat), rd9 < rd + 1 → cm[j]? = some m → I1 48 (rd9 * 6 + j) = jOff s r k rd9 m) → (∀ q j, q ≠ 40 → q ≠ 48 → I1 q j = I q j) → aX mX1_fillOffsets aE0 (sh0, I1, L, R) 88 [(0, .ref 41), (1, .int (nI k)), (2, .ref 48), (3, .int (nI (10000 * s.2.1 (jBase s (jB s k))))), (4, .int (nI rd)), (5, .int (nI cm.length))] [] 0 0 Q) : ∀ (k9 i : Nat), i ≤ cm.length → cm.length - i = k9 → ∀ (I1 : Nat → Nat → Int32), (∀ (rd9 j m : Nat), rd9 < rd → cm[j]? = some m → I1 48 (rd9 * 6 + j) = jOff s r k rd9 m) → (∀ (j m : Nat), j < i → cm[j]? = some m → I1 48 (rd * 6 + j) = jOff s r k rd m) → (∀ q j, q ≠ 40 → q ≠ 48 → I1 q j = I q j) → opRep I1 s r (jB s k) rd → aX mX1_fillOffsets aE0 (sh0, I1, L, R) 40 [(0, .ref 41), (1, .int (nI (k))), (2, .ref 48), (3, .int (nI (10000 * s.2.1 (jBase s (jB s k))))), (4, .int (nI (rd))), (5, .int (nI (i)))] [] 0 0 Q := by
  intro k9
  induction k9 using Nat.strongRecOn with
  | _ k9 ih =>
    intro i hi hk9 I1  hdn hin hke hop
    obtain ⟨hs, ho, h6, hS, hV⟩ := id hc
    have hn := ho.1
    have hSl := jS_len s
    obtain ⟨q, hq, hqb⟩ := jQ hk
    have hb9 := jS_in hq
    have hcl := jCn_le (s := s) (r := r) (k := k)
    have hkp : hK 40 48 I I1 := fun q j _ _ h3 => hke q j (by omega) (by omega)
    have hc1 := cRep_hK hkp (by decide) hc
    have hr1 := rRep_hK hkp (by decide) hr
    obtain ⟨hs1, ho1, h61, hS1, hV1⟩ := id hc1
    have hcc := hcm.1
    refine aX_iload dX1_fillOffsets_40 rfl ?_
    refine aX_aload_n dX1_fillOffsets_42 rfl ?_
    refine aX_get dX1_fillOffsets_43 lfX1_34 s41 (f41_0 hR) ?_
    refine aX_get (v := .int (nI (cm.length))) dX1_fillOffsets_46 lfX1_103 s16 (congrArg Value.int ((hke 16 13 (by omega) (by omega)).trans hcc)) ?_
    refine nGe (tgt := 88) dX1_fillOffsets_49 (by decide) (by first | omega | exact Nat.lt_of_le_of_lt (Nat.mod_le _ _) (by omega)) (by first | omega | exact Nat.lt_of_le_of_lt (Nat.mod_le _ _) (by omega)) (fun c1 => ?_) (fun c1 => ?_)
    · obtain rfl : i = cm.length := by omega
      exact kk I1 (fun rd9 j m9 h1 h2 => by
        by_cases e : rd9 = rd
        · subst e; exact hin j m9 (List.getElem?_eq_some_iff.mp h2).1 h2
        · exact hdn rd9 j m9 (by omega) h2) hke
    · obtain ⟨m, hm⟩ : ∃ m, cm[i]? = some m := ⟨_, List.getElem?_eq_getElem c1⟩
      have hmq := hcq i m hm
      rw [← hqb] at hmq
      refine aX_aload_n dX1_fillOffsets_52 rfl ?_
      refine aX_iload dX1_fillOffsets_53 rfl ?_
      refine aX_bipush (v := nI 6) dX1_fillOffsets_55 (by decide) ?_
      refine nMul dX1_fillOffsets_57 ?_
      refine aX_iload dX1_fillOffsets_58 rfl ?_
      refine nAdd dX1_fillOffsets_60 ?_
      refine aX_iload_n dX1_fillOffsets_61 rfl ?_
      refine aX_aload_n dX1_fillOffsets_62 rfl ?_
      refine aX_get dX1_fillOffsets_63 lfX1_38 s41 (f41_1 hR) ?_
      refine aX_iload_n dX1_fillOffsets_66 rfl ?_
      refine aX_aload_n dX1_fillOffsets_67 rfl ?_
      refine aX_get dX1_fillOffsets_68 lfX1_34 s41 (f41_0 hR) ?_
      refine aX_get dX1_fillOffsets_71 lfX1_106 s16 (f16_14 hR) ?_
      refine aX_iload dX1_fillOffsets_74 rfl ?_
      refine nIald (v := nI (m)) dX1_fillOffsets_76 s27 (by first | omega | exact Nat.lt_of_le_of_lt (Nat.mod_le _ _) (by omega)) (by decide) ((hke 27 i (by omega) (by omega)).trans (hcm.2 i m hm)) ?_
      refine cVp (As := [.int (nI (k)), .int (nI (m))]) (st := [.int (nI (10000 * s.2.1 (jBase s (jB s k)))), .int (nI ((rd * 6) + i)), .ref 48]) (v := .int (jTg s r q.1 rd m)) dX1_fillOffsets_77 kX1_fillOffsets_109 s39 aEok0 rfl rfl (Nat.le_of_ble_eq_true rfl) (c_targetOf hR hc1 hq hmq.1 hmq.2 hr1 (by rw [hqb]; exact hop)) ?_
      refine aX_iadd dX1_fillOffsets_80 ?_
      refine nIast dX1_fillOffsets_81 s48 (by first | omega | exact Nat.lt_of_le_of_lt (Nat.mod_le _ _) (by omega)) (by decide) ?_
      refine nInc (lv' := [(0, .ref 41), (1, .int (nI (k))), (2, .ref 48), (3, .int (nI (10000 * s.2.1 (jBase s (jB s k))))), (4, .int (nI (rd))), (5, .int (nI (i + 1)))]) dX1_fillOffsets_82 rfl rfl (by decide) rfl ?_
      refine aX_goto (tgt := 40) dX1_fillOffsets_85 (by decide) ?_
      exact ih (cm.length - (i + 1)) (by omega) (i + 1) (by omega) rfl _ (fun rd9 j m9 h1 h2 => by rw [aU_n (by have := (List.getElem?_eq_some_iff.mp h2).1; omega)]; exact hdn rd9 j m9 h1 h2) (fun j m9 h1 h2 => by
        by_cases e : j = i
        · subst e; rw [aU_s]; rw [hm] at h2; cases h2; unfold jOff; rw [← hqb]
        · rw [aU_n (by omega)]; exact hin j m9 (by omega) h2) (fun q9 j h1 h2 => by rw [aU_n (by omega)]; exact hke q9 j h1 h2) (fun x hx => hop x hx)
set_option maxHeartbeats 1000000 in
theorem l_fill48 {I : Nat → Nat → Int32} {L : Nat → Nat → Int64} {R : Nat → Nat → Option Nat} (hR : aRf R) {s : jN} (hc : cRep I s) {r : jR} (hr : rRep I r) {k : Nat} (hk : k < (jS s).length) {cm : List Nat} (hcm : cmRep I cm) (hcl6 : cm.length ≤ 6) (hcq : ∀ (j m : Nat), cm[j]? = some m → m < s.1 ∧ jOn s m (jB s k) = true) (hct : ctRep I s r) : ∀ (k9 i : Nat), i ≤ jCn s r k → (jCn s r k) - i = k9 → ∀ (I1 : Nat → Nat → Int32), (∀ (rd9 j m : Nat), rd9 < i → cm[j]? = some m → I1 48 (rd9 * 6 + j) = jOff s r k rd9 m) → (∀ q j, q ≠ 40 → q ≠ 48 → I1 q j = I q j) → aX mX1_fillOffsets aE0 (sh0, I1, L, R) 16 [(0, .ref 41), (1, .int (nI (k))), (2, .ref 48), (3, .int (nI (10000 * s.2.1 (jBase s (jB s k))))), (4, .int (nI (i)))] [] 0 0 (fun ans h' => ans = none ∧ ∃ I', h' = (sh0, I', L, R) ∧ (∀ (rd j m : Nat), rd < jCn s r k → cm[j]? = some m → I' 48 (rd * 6 + j) = jOff s r k rd m) ∧ (∀ q j, q ≠ 40 → q ≠ 48 → I' q j = I q j)) := by
  intro k9
  induction k9 using Nat.strongRecOn with
  | _ k9 ih =>
    intro i hi hk9 I1  hdn hke
    obtain ⟨hs, ho, h6, hS, hV⟩ := id hc
    have hn := ho.1
    have hSl := jS_len s
    obtain ⟨q, hq, hqb⟩ := jQ hk
    have hb9 := jS_in hq
    have hcl := jCn_le (s := s) (r := r) (k := k)
    have hkp : hK 40 48 I I1 := fun q j _ _ h3 => hke q j (by omega) (by omega)
    have hc1 := cRep_hK hkp (by decide) hc
    have hr1 := rRep_hK hkp (by decide) hr
    obtain ⟨hs1, ho1, h61, hS1, hV1⟩ := id hc1
    have hcc := hcm.1
    refine aX_iload dX1_fillOffsets_16 rfl ?_
    refine aX_aload_n dX1_fillOffsets_18 rfl ?_
    refine aX_get dX1_fillOffsets_19 lfX1_15 s41 (f41_4 hR) ?_
    refine aX_iload_n dX1_fillOffsets_22 rfl ?_
    refine nIald (v := nI (jCn s r k)) dX1_fillOffsets_23 s43 (by first | omega | exact Nat.lt_of_le_of_lt (Nat.mod_le _ _) (by omega)) (by decide) ((hke 43 k (by omega) (by omega)).trans (hct k hk)) ?_
    refine nGe (tgt := 94) dX1_fillOffsets_24 (by decide) (by first | omega | exact Nat.lt_of_le_of_lt (Nat.mod_le _ _) (by omega)) (by first | omega | exact Nat.lt_of_le_of_lt (Nat.mod_le _ _) (by omega)) (fun c1 => ?_) (fun c1 => ?_)
    · exact rV dX1_fillOffsets_94 rfl (⟨rfl, I1, rfl, fun rd j m h1 h2 => hdn rd j m (by omega) h2, hke⟩)
    · refine aX_aload_n dX1_fillOffsets_27 rfl ?_
      refine aX_get dX1_fillOffsets_28 lfX1_38 s41 (f41_1 hR) ?_
      refine aX_iload_n dX1_fillOffsets_31 rfl ?_
      refine aX_iload dX1_fillOffsets_32 rfl ?_
      refine cV (As := [.int (nI (k)), .int (nI (i))]) (st := []) dX1_fillOffsets_34 kX1_fillOffsets_83 s39 aEok0 rfl rfl (Nat.le_of_ble_eq_true rfl) (c_open hR hc1 hq hr1 (by omega)) (fun r h' hq9 => ?_)
      obtain ⟨rfl, I2, rfl, hop, hkp2⟩ := hq9
      refine ⟨rfl, ?_⟩
      have hke2 : ∀ q j, q ≠ 40 → q ≠ 48 → I2 q j = I q j := fun q j h1 h2 => (hkp2 q j h1).trans (hke q j h1 h2)
      refine aX_iconst (v := nI 0) dX1_fillOffsets_37 (by decide) ?_
      refine aX_istore (lv' := [(0, .ref 41), (1, .int (nI (k))), (2, .ref 48), (3, .int (nI (10000 * s.2.1 (jBase s (jB s k))))), (4, .int (nI (i))), (5, .int (nI (0)))]) dX1_fillOffsets_38 (by decide) rfl ?_
      refine l_fillIn48 hR hc hr hk hcm hcl6 hcq hct (rd := i) (by omega) (fun I3 hd3 hk3 => ?_) _ 0 (by omega) rfl I2 (fun rd9 j m9 h1 h2 => by rw [hkp2 _ _ (by decide)]; exact hdn rd9 j m9 h1 h2) (fun j m h1 _ => by omega) hke2 (by rw [← hqb]; exact hop)
      refine nInc (lv' := [(0, .ref 41), (1, .int (nI (k))), (2, .ref 48), (3, .int (nI (10000 * s.2.1 (jBase s (jB s k))))), (4, .int (nI (i + 1))), (5, .int (nI (cm.length)))]) dX1_fillOffsets_88 rfl rfl (by decide) rfl ?_
      refine aX_goto (tgt := 16) dX1_fillOffsets_91 (by decide) ?_
      refine aX_lv (lv' := [(0, .ref 41), (1, .int (nI k)), (2, .ref 48), (3, .int (nI (10000 * s.2.1 (jBase s (jB s k))))), (4, .int (nI (i + 1)))]) [0, 1, 2, 3, 4] rfl ?_
      exact ih (jCn s r k - (i + 1)) (by omega) (i + 1) (by omega) rfl I3 hd3 hk3
set_option maxHeartbeats 1000000 in
theorem c_fill48 {I : Nat → Nat → Int32} {L : Nat → Nat → Int64} {R : Nat → Nat → Option Nat} (hR : aRf R) {s : jN} (hc : cRep I s) {r : jR} (hr : rRep I r) {k : Nat} (hk : k < (jS s).length) {cm : List Nat} (hcm : cmRep I cm) (hcl6 : cm.length ≤ 6) (hcq : ∀ (j m : Nat), cm[j]? = some m → m < s.1 ∧ jOn s m (jB s k) = true) (hct : ctRep I s r) : aM mX1_fillOffsets [.ref 41, .int (nI k), .ref 48] (sh0, I, L, R) (fun ans h' => ans = none ∧ ∃ I', h' = (sh0, I', L, R) ∧ (∀ (rd j m : Nat), rd < jCn s r k → cm[j]? = some m → I' 48 (rd * 6 + j) = jOff s r k rd m) ∧ (∀ q j, q ≠ 40 → q ≠ 48 → I' q j = I q j)) := by
  obtain ⟨q, hq, hqb⟩ := jQ hk
  refine aM_of plX1_fillOffsets (Nat.le_of_ble_eq_true rfl) ?_
  refine aX_sipush (v := nI 10000) dX1_fillOffsets_0 (by decide) ?_
  refine aX_aload_n dX1_fillOffsets_3 rfl ?_
  refine aX_get dX1_fillOffsets_4 lfX1_34 s41 (f41_0 hR) ?_
  refine aX_iload_n dX1_fillOffsets_7 rfl ?_
  refine cVp (As := [.int (nI (k))]) (st := [.int (nI (10000))]) (v := .int (nI (s.2.1 (jBase s q.1)))) dX1_fillOffsets_8 kX1_fillOffsets_100 s16 aEok0 rfl rfl (Nat.le_of_ble_eq_true rfl) (c_baseKey hR hc hq) ?_
  refine nMul dX1_fillOffsets_11 ?_
  refine aX_istore_n (lv' := [(0, .ref 41), (1, .int (nI (k))), (2, .ref 48), (3, .int (nI (10000 * (s.2.1 (jBase s q.1)))))]) dX1_fillOffsets_12 (by decide) rfl ?_
  refine aX_iconst (v := nI 0) dX1_fillOffsets_13 (by decide) ?_
  refine aX_istore (lv' := [(0, .ref 41), (1, .int (nI (k))), (2, .ref 48), (3, .int (nI (10000 * (s.2.1 (jBase s q.1))))), (4, .int (nI (0)))]) dX1_fillOffsets_14 (by decide) rfl ?_
  rw [hqb]
  exact l_fill48 hR hc hr hk hcm hcl6 hcq hct _ 0 (by omega) rfl I (fun rd j m h1 _ => by omega) (fun _ _ _ _ => rfl)
theorem take_foldl2 {α : Type} {l : List Nat} {f : α → Nat → α} {a : α} {i m : Nat} (h : l[i]? = some m) : (l.take (i + 1)).foldl f a = f ((l.take i).foldl f a) m := take_foldl h
set_option maxHeartbeats 1000000 in
theorem l_strain {I : Nat → Nat → Int32} {L : Nat → Nat → Int64} {R : Nat → Nat → Option Nat} (hR : aRf R) {s : jN} (hc : cRep I s) {r : jR} {k : Nat} (hk : k + 1 < (jS s).length) (hcm : cmRep I (jCm s k)) (ho1 : ∀ rd j m, rd < jCn s r k → (jCm s k)[j]? = some m → I 47 (rd * 6 + j) = jOff s r k rd m) (ho2 : ∀ rd j m, rd < jCn s r (k + 1) → (jCm s k)[j]? = some m → I 48 (rd * 6 + j) = jOff s r (k + 1) rd m) {rd o : Nat} (hrd : rd < jCn s r k) (hro : o < jCn s r (k + 1)) (hpos : 0 < (jCm s k).length) : ∀ (k9 i : Nat), i ≤ (jCm s k).length → ((jCm s k).length) - i = k9 → ∀ (a b : Int64), a = ((jCm s k).take i).foldl (fun a m => a + (jOff s r (k + 1) o m - jOff s r k rd m).toInt64) 0 → b = ((jCm s k).take i).foldl (fun a m => a + (jOff s r (k + 1) o m - jOff s r k rd m).toInt64 * (jOff s r (k + 1) o m - jOff s r k rd m).toInt64) 0 → aX mX1_strain aE0 (sh0, I, L, R) 24 [(0, .ref 41), (1, .int (nI (rd))), (2, .int (nI (o))), (3, .int (nI ((jCm s k).length))), (4, .long (a)), (6, .long (b)), (8, .int (nI (i)))] [] 0 0 (fun ans h' => h' = (sh0, I, L, R) ∧ ans = some (.long (jStrain s r k rd o))) := by
  intro k9
  induction k9 using Nat.strongRecOn with
  | _ k9 ih =>
    intro i hi hk9 a b  e1 e2
    have h6 := hc.2.2.1
    have hcl6 := jCm_len h6 (k := k)
    have hl1 := jCn_le (s := s) (r := r) (k := k)
    have hl2 := jCn_le (s := s) (r := r) (k := k + 1)
    refine aX_iload dX1_strain_24 rfl ?_
    refine aX_iload_n dX1_strain_26 rfl ?_
    refine nGe (tgt := 81) dX1_strain_27 (by decide) (by first | omega | exact Nat.lt_of_le_of_lt (Nat.mod_le _ _) (by omega)) (by first | omega | exact Nat.lt_of_le_of_lt (Nat.mod_le _ _) (by omega)) (fun c1 => ?_) (fun c1 => ?_)
    · refine aX_bipush (v := nI 60) dX1_strain_81 (by decide) ?_
      refine aX_iload_n dX1_strain_83 rfl ?_
      refine nDiv dX1_strain_84 (by first | omega | exact Nat.lt_of_le_of_lt (Nat.mod_le _ _) (by omega)) (by first | omega | exact Nat.lt_of_le_of_lt (Nat.mod_le _ _) (by omega)) (by first | omega | exact Nat.lt_of_le_of_lt (Nat.mod_le _ _) (by omega)) ?_
      refine aX_i2l dX1_strain_85 ?_
      refine aX_iload_n dX1_strain_86 rfl ?_
      refine aX_i2l dX1_strain_87 ?_
      refine aX_lload dX1_strain_88 rfl ?_
      refine aX_lmul dX1_strain_90 ?_
      refine aX_lload dX1_strain_91 rfl ?_
      refine aX_lload dX1_strain_93 rfl ?_
      refine aX_lmul dX1_strain_95 ?_
      refine aX_lsub dX1_strain_96 ?_
      refine aX_lmul dX1_strain_97 ?_
      exact rL dX1_strain_98 rfl (⟨rfl, by unfold jStrain jStr2; rw [if_neg (by rw [show (jDs s r k rd o).length = (jCm s k).length from List.length_map _]; omega), show (jDs s r k rd o).length = (jCm s k).length from List.length_map _, show jSq (jDs s r k rd o) = b by rw [e2, List.take_of_length_le (by omega)]; unfold jSq jDs; rw [List.foldl_map], show jSum (jDs s r k rd o) = a by rw [e1, List.take_of_length_le (by omega)]; unfold jSum jDs; rw [List.foldl_map]]⟩)
    · obtain ⟨m, hm⟩ := jCm_at c1
      refine aX_aload_n dX1_strain_30 rfl ?_
      refine aX_get dX1_strain_31 lfX1_31 s41 (f41_9 hR) ?_
      refine aX_iload_n dX1_strain_34 rfl ?_
      refine aX_bipush (v := nI 6) dX1_strain_35 (by decide) ?_
      refine nMul dX1_strain_37 ?_
      refine aX_iload dX1_strain_38 rfl ?_
      refine nAdd dX1_strain_40 ?_
      refine nIald (v := jOff s r (k + 1) o m) dX1_strain_41 s48 (by first | omega | exact Nat.lt_of_le_of_lt (Nat.mod_le _ _) (by omega)) (by decide) (ho2 o i m hro hm) ?_
      refine aX_aload_n dX1_strain_42 rfl ?_
      refine aX_get dX1_strain_43 lfX1_28 s41 (f41_8 hR) ?_
      refine aX_iload_n dX1_strain_46 rfl ?_
      refine aX_bipush (v := nI 6) dX1_strain_47 (by decide) ?_
      refine nMul dX1_strain_49 ?_
      refine aX_iload dX1_strain_50 rfl ?_
      refine nAdd dX1_strain_52 ?_
      refine nIald (v := jOff s r k rd m) dX1_strain_53 s47 (by first | omega | exact Nat.lt_of_le_of_lt (Nat.mod_le _ _) (by omega)) (by decide) (ho1 rd i m hrd hm) ?_
      refine aX_isub dX1_strain_54 ?_
      refine aX_i2l dX1_strain_55 ?_
      refine aX_lstore (lv' := [(0, .ref 41), (1, .int (nI (rd))), (2, .int (nI (o))), (3, .int (nI ((jCm s k).length))), (4, .long (a)), (6, .long (b)), (8, .int (nI (i))), (9, .long (((jOff s r (k + 1) o m) - (jOff s r k rd m)).toInt64))]) dX1_strain_56 (by decide) rfl ?_
      refine aX_lload dX1_strain_58 rfl ?_
      refine aX_lload dX1_strain_60 rfl ?_
      refine aX_ladd dX1_strain_62 ?_
      refine aX_lstore (lv' := [(0, .ref 41), (1, .int (nI (rd))), (2, .int (nI (o))), (3, .int (nI ((jCm s k).length))), (4, .long (a + (((jOff s r (k + 1) o m) - (jOff s r k rd m)).toInt64))), (6, .long (b)), (8, .int (nI (i))), (9, .long (((jOff s r (k + 1) o m) - (jOff s r k rd m)).toInt64))]) dX1_strain_63 (by decide) rfl ?_
      refine aX_lload dX1_strain_65 rfl ?_
      refine aX_lload dX1_strain_67 rfl ?_
      refine aX_lload dX1_strain_69 rfl ?_
      refine aX_lmul dX1_strain_71 ?_
      refine aX_ladd dX1_strain_72 ?_
      refine aX_lstore (lv' := [(0, .ref 41), (1, .int (nI (rd))), (2, .int (nI (o))), (3, .int (nI ((jCm s k).length))), (4, .long (a + (((jOff s r (k + 1) o m) - (jOff s r k rd m)).toInt64))), (6, .long (b + ((((jOff s r (k + 1) o m) - (jOff s r k rd m)).toInt64) * (((jOff s r (k + 1) o m) - (jOff s r k rd m)).toInt64)))), (8, .int (nI (i))), (9, .long (((jOff s r (k + 1) o m) - (jOff s r k rd m)).toInt64))]) dX1_strain_73 (by decide) rfl ?_
      refine nInc (lv' := [(0, .ref 41), (1, .int (nI (rd))), (2, .int (nI (o))), (3, .int (nI ((jCm s k).length))), (4, .long (a + (((jOff s r (k + 1) o m) - (jOff s r k rd m)).toInt64))), (6, .long (b + ((((jOff s r (k + 1) o m) - (jOff s r k rd m)).toInt64) * (((jOff s r (k + 1) o m) - (jOff s r k rd m)).toInt64)))), (8, .int (nI (i + 1))), (9, .long (((jOff s r (k + 1) o m) - (jOff s r k rd m)).toInt64))]) dX1_strain_75 rfl rfl (by decide) rfl ?_
      refine aX_goto (tgt := 24) dX1_strain_78 (by decide) ?_
      refine aX_lv (lv' := [(0, .ref 41), (1, .int (nI (rd))), (2, .int (nI (o))), (3, .int (nI ((jCm s k).length))), (4, .long (a + (((jOff s r (k + 1) o m) - (jOff s r k rd m)).toInt64))), (6, .long (b + ((((jOff s r (k + 1) o m) - (jOff s r k rd m)).toInt64) * (((jOff s r (k + 1) o m) - (jOff s r k rd m)).toInt64)))), (8, .int (nI (i + 1)))]) [0, 1, 2, 3, 4, 5, 6] rfl ?_
      exact ih ((jCm s k).length - (i + 1)) (by omega) (i + 1) (by omega) rfl _ _ (by rw [take_foldl2 hm, ← e1]) (by rw [take_foldl2 hm, ← e2])
set_option maxHeartbeats 1000000 in
theorem c_strain {I : Nat → Nat → Int32} {L : Nat → Nat → Int64} {R : Nat → Nat → Option Nat} (hR : aRf R) {s : jN} (hc : cRep I s) {r : jR} {k : Nat} (hk : k + 1 < (jS s).length) (hcm : cmRep I (jCm s k)) (ho1 : ∀ rd j m, rd < jCn s r k → (jCm s k)[j]? = some m → I 47 (rd * 6 + j) = jOff s r k rd m) (ho2 : ∀ rd j m, rd < jCn s r (k + 1) → (jCm s k)[j]? = some m → I 48 (rd * 6 + j) = jOff s r (k + 1) rd m) {rd o : Nat} (hrd : rd < jCn s r k) (hro : o < jCn s r (k + 1)) : aMp mX1_strain [.ref 41, .int (nI rd), .int (nI o)] (sh0, I, L, R) (.long (jStrain s r k rd o)) := by
  have h6 := hc.2.2.1
  have hcl6 := jCm_len h6 (k := k)
  have hl1 := jCn_le (s := s) (r := r) (k := k)
  have hl2 := jCn_le (s := s) (r := r) (k := k + 1)
  refine aM_of plX1_strain (Nat.le_of_ble_eq_true rfl) ?_
  refine aX_aload_n dX1_strain_0 rfl ?_
  refine aX_get dX1_strain_1 lfX1_34 s41 (f41_0 hR) ?_
  refine aX_get (v := .int (nI ((jCm s k).length))) dX1_strain_4 lfX1_103 s16 (congrArg Value.int (hcm.1)) ?_
  refine aX_istore_n (lv' := [(0, .ref 41), (1, .int (nI (rd))), (2, .int (nI (o))), (3, .int (nI ((jCm s k).length)))]) dX1_strain_7 (by decide) rfl ?_
  refine aX_iload_n dX1_strain_8 rfl ?_
  refine aX_iconst (v := nI 1) dX1_strain_9 (by decide) ?_
  refine nGe (tgt := 15) dX1_strain_10 (by decide) (by first | omega | exact Nat.lt_of_le_of_lt (Nat.mod_le _ _) (by omega)) (by first | omega | exact Nat.lt_of_le_of_lt (Nat.mod_le _ _) (by omega)) (fun c1 => ?_) (fun c1 => ?_)
  · refine aX_lconst (v := 0) dX1_strain_15 rfl ?_
    refine aX_lstore (lv' := [(0, .ref 41), (1, .int (nI (rd))), (2, .int (nI (o))), (3, .int (nI ((jCm s k).length))), (4, .long ((0 : Int64)))]) dX1_strain_16 (by decide) rfl ?_
    refine aX_lconst (v := 0) dX1_strain_18 rfl ?_
    refine aX_lstore (lv' := [(0, .ref 41), (1, .int (nI (rd))), (2, .int (nI (o))), (3, .int (nI ((jCm s k).length))), (4, .long ((0 : Int64))), (6, .long ((0 : Int64)))]) dX1_strain_19 (by decide) rfl ?_
    refine aX_iconst (v := nI 0) dX1_strain_21 (by decide) ?_
    refine aX_istore (lv' := [(0, .ref 41), (1, .int (nI (rd))), (2, .int (nI (o))), (3, .int (nI ((jCm s k).length))), (4, .long ((0 : Int64))), (6, .long ((0 : Int64))), (8, .int (nI (0)))]) dX1_strain_22 (by decide) rfl ?_
    exact l_strain hR hc hk hcm ho1 ho2 hrd hro (by omega) _ 0 (by omega) rfl 0 0 rfl rfl
  · refine aX_lconst (v := 0) dX1_strain_13 rfl ?_
    exact rL dX1_strain_14 rfl (⟨rfl, by unfold jStrain jStr2; rw [if_pos (by rw [show (jDs s r k rd o).length = (jCm s k).length from List.length_map _]; omega)]⟩)
