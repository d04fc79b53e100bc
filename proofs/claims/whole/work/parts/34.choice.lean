/-! THE CHOICE: readings are joined, from the last set on -/
theorem jMin_skip {f : Nat → Int64} {a : Int64} {n : Nat} (h1 : (jMin f n).1 ≤ a) (h2 : a ≤ f n) : jMin f (n + 1) = jMin f n := by
  show (if f n < (jMin f n).1 then _ else _) = _
  rw [if_neg]
  have := Int64.le_trans h1 h2
  rw [Int64.not_lt]; exact this
theorem jMin_no {f : Nat → Int64} {n : Nat} (h1 : (jMin f n).1 ≤ f n) : jMin f (n + 1) = jMin f n := jMin_skip h1 (Int64.le_refl _)
theorem jMin_yes {f : Nat → Int64} {n : Nat} (h1 : ¬ (jMin f n).1 ≤ f n) : jMin f (n + 1) = (f n, n) := by
  show (if f n < (jMin f n).1 then _ else _) = _
  rw [if_pos (Int64.not_le.mp h1)]
theorem jMin_lt64 {f : Nat → Int64} {n : Nat} (h : n ≤ 64) : (jMin f n).2 < 64 := by
  rcases Nat.eq_zero_or_pos n with z | z
  · subst z; exact Nat.succ_pos _
  · have := jMin_lt f n z; omega
set_option maxHeartbeats 1000000 in
theorem l_joinReading {I : Nat → Nat → Int32} {L : Nat → Nat → Int64} {R : Nat → Nat → Option Nat} (hR : aRf R) {s : jN} (hc : cRep I s) {r : jR} {w : jW} (hw : wRep I w) {k : Nat} (hk : k + 1 < (jS s).length) (hct : ctRep I s r) (hcm : cmRep I (jCm s k)) (ho1 : ∀ rd j m, rd < jCn s r k → (jCm s k)[j]? = some m → I 47 (rd * 6 + j) = jOff s r k rd m) (ho2 : ∀ rd j m, rd < jCn s r (k + 1) → (jCm s k)[j]? = some m → I 48 (rd * 6 + j) = jOff s r (k + 1) rd m) {rd : Nat} (hrd : rd < jCn s r k) {f : Nat → Int64} (hf : ∀ o, o < jCn s r (k + 1) → L 45 o = f o) (hns : ∀ o, o < jCn s r (k + 1) → f o ≤ f o + (nI (w 1)).toInt64 * jStrain s r k rd o) : ∀ (k9 o : Nat), o ≤ jCn s r (k + 1) → (jCn s r (k + 1)) - o = k9 → aX mX1_joinReading aE0 (sh0, I, L, R) 10 [(0, .ref 41), (1, .int (nI (k))), (2, .int (nI (rd))), (3, .long ((jMin (fun o => f o + (nI (w 1)).toInt64 * jStrain s r k rd o) o).1)), (5, .int (nI ((jMin (fun o => f o + (nI (w 1)).toInt64 * jStrain s r k rd o) o).2))), (6, .int (nI (o)))] [] 0 0 (fun ans h' => ans = none ∧ h' = (sh0, aU I 46 (k * 64 + rd) (nI (jMin (fun o => f o + (nI (w 1)).toInt64 * jStrain s r k rd o) (jCn s r (k + 1))).2), aU L 44 rd (L 44 rd + (jMin (fun o => f o + (nI (w 1)).toInt64 * jStrain s r k rd o) (jCn s r (k + 1))).1), R)) := by
  intro k9
  induction k9 using Nat.strongRecOn with
  | _ k9 ih =>
    intro o hi hk9  
    have hSl := jS_len s
    have hl1 := jCn_le (s := s) (r := r) (k := k)
    have hl2 := jCn_le (s := s) (r := r) (k := k + 1)
    have hjm := jMin_lt64 (f := (fun o => f o + (nI (w 1)).toInt64 * jStrain s r k rd o)) (n := o) (by omega)
    refine aX_iload dX1_joinReading_10 rfl ?_
    refine aX_aload_n dX1_joinReading_12 rfl ?_
    refine aX_get dX1_joinReading_13 lfX1_15 s41 (f41_4 hR) ?_
    refine aX_iload_n dX1_joinReading_16 rfl ?_
    refine aX_iconst (v := nI 1) dX1_joinReading_17 (by decide) ?_
    refine nAdd dX1_joinReading_18 ?_
    refine nIald (v := nI (jCn s r (k + 1))) dX1_joinReading_19 s43 (by first | omega | exact Nat.lt_of_le_of_lt (Nat.mod_le _ _) (by omega)) (by decide) (hct (k + 1) hk) ?_
    refine nGe (tgt := 80) dX1_joinReading_20 (by decide) (by first | omega | exact Nat.lt_of_le_of_lt (Nat.mod_le _ _) (by omega)) (by first | omega | exact Nat.lt_of_le_of_lt (Nat.mod_le _ _) (by omega)) (fun c1 => ?_) (fun c1 => ?_)
    · refine aX_aload_n dX1_joinReading_80 rfl ?_
      refine aX_get dX1_joinReading_81 lfX1_18 s41 (f41_5 hR) ?_
      refine aX_iload_n dX1_joinReading_84 rfl ?_
      refine aX_dup2_11 dX1_joinReading_85 rfl rfl ?_
      refine nLald (v := L 44 rd) dX1_joinReading_86 s44 (by first | omega | exact Nat.lt_of_le_of_lt (Nat.mod_le _ _) (by omega)) (by decide) (rfl) ?_
      refine aX_lload_n dX1_joinReading_87 rfl ?_
      refine aX_ladd dX1_joinReading_88 ?_
      refine nLast dX1_joinReading_89 s44 (by first | omega | exact Nat.lt_of_le_of_lt (Nat.mod_le _ _) (by omega)) (by decide) ?_
      refine aX_aload_n dX1_joinReading_90 rfl ?_
      refine aX_get dX1_joinReading_91 lfX1_25 s41 (f41_7 hR) ?_
      refine aX_iload_n dX1_joinReading_94 rfl ?_
      refine aX_bipush (v := nI 64) dX1_joinReading_95 (by decide) ?_
      refine nMul dX1_joinReading_97 ?_
      refine aX_iload_n dX1_joinReading_98 rfl ?_
      refine nAdd dX1_joinReading_99 ?_
      refine aX_iload dX1_joinReading_100 rfl ?_
      refine nIast dX1_joinReading_102 s46 (by first | omega | exact Nat.lt_of_le_of_lt (Nat.mod_le _ _) (by omega)) (by decide) ?_
      exact rV dX1_joinReading_103 rfl (⟨rfl, by rw [show o = jCn s r (k + 1) by omega]⟩)
    · refine aX_aload_n dX1_joinReading_23 rfl ?_
      refine aX_get dX1_joinReading_24 lfX1_22 s41 (f41_6 hR) ?_
      refine aX_iload dX1_joinReading_27 rfl ?_
      refine nLald (v := f o) dX1_joinReading_29 s45 (by first | omega | exact Nat.lt_of_le_of_lt (Nat.mod_le _ _) (by omega)) (by decide) (hf o (by omega)) ?_
      refine aX_lload_n dX1_joinReading_30 rfl ?_
      refine aX_lcmp dX1_joinReading_31 ?_
      refine lIf_ge (tgt := 74) dX1_joinReading_32 (by decide) (fun c2 => ?_) (fun c2 => ?_)
      · refine nInc (lv' := [(0, .ref 41), (1, .int (nI (k))), (2, .int (nI (rd))), (3, .long ((jMin (fun o => f o + (nI (w 1)).toInt64 * jStrain s r k rd o) o).1)), (5, .int (nI ((jMin (fun o => f o + (nI (w 1)).toInt64 * jStrain s r k rd o) o).2))), (6, .int (nI (o + 1)))]) dX1_joinReading_74 rfl rfl (by decide) rfl ?_
        refine aX_goto (tgt := 10) dX1_joinReading_77 (by decide) ?_
        have hj : jMin (fun o => f o + (nI (w 1)).toInt64 * jStrain s r k rd o) (o + 1) = jMin (fun o => f o + (nI (w 1)).toInt64 * jStrain s r k rd o) o := jMin_skip (a := f o) (by assumption) (hns o (by omega))
        have := ih (jCn s r (k + 1) - (o + 1)) (by omega) (o + 1) (by omega) rfl
        rw [hj] at this
        exact this
      · refine aX_aload_n dX1_joinReading_35 rfl ?_
        refine aX_get dX1_joinReading_36 lfX1_22 s41 (f41_6 hR) ?_
        refine aX_iload dX1_joinReading_39 rfl ?_
        refine nLald (v := f o) dX1_joinReading_41 s45 (by first | omega | exact Nat.lt_of_le_of_lt (Nat.mod_le _ _) (by omega)) (by decide) (hf o (by omega)) ?_
        refine aX_aload_n dX1_joinReading_42 rfl ?_
        refine aX_get dX1_joinReading_43 lfX1_42 s41 (f41_2 hR) ?_
        refine aX_iconst (v := nI 1) dX1_joinReading_46 (by decide) ?_
        refine nIald (v := nI (w 1)) dX1_joinReading_47 s9 (by first | omega | exact Nat.lt_of_le_of_lt (Nat.mod_le _ _) (by omega)) (by decide) (hw.2 1 (by decide)) ?_
        refine aX_i2l dX1_joinReading_48 ?_
        refine aX_aload_n dX1_joinReading_49 rfl ?_
        refine aX_iload_n dX1_joinReading_50 rfl ?_
        refine aX_iload dX1_joinReading_51 rfl ?_
        refine cVp (As := [.int (nI (rd)), .int (nI (o))]) (st := [.long ((nI (w 1)).toInt64), .long (f o)]) (v := .long (jStrain s r k rd o)) dX1_joinReading_53 kX1_joinReading_114 s41 aEok0 rfl rfl (Nat.le_of_ble_eq_true rfl) (c_strain hR hc hk hcm ho1 ho2 hrd (by omega)) ?_
        refine aX_lmul dX1_joinReading_56 ?_
        refine aX_ladd dX1_joinReading_57 ?_
        refine aX_lstore (lv' := [(0, .ref 41), (1, .int (nI (k))), (2, .int (nI (rd))), (3, .long ((jMin (fun o => f o + (nI (w 1)).toInt64 * jStrain s r k rd o) o).1)), (5, .int (nI ((jMin (fun o => f o + (nI (w 1)).toInt64 * jStrain s r k rd o) o).2))), (6, .int (nI (o))), (7, .long ((f o) + (((nI (w 1)).toInt64) * (jStrain s r k rd o))))]) dX1_joinReading_58 (by decide) rfl ?_
        refine aX_lload dX1_joinReading_60 rfl ?_
        refine aX_lload_n dX1_joinReading_62 rfl ?_
        refine aX_lcmp dX1_joinReading_63 ?_
        refine lIf_ge (tgt := 74) dX1_joinReading_64 (by decide) (fun c3 => ?_) (fun c3 => ?_)
        · refine nInc (lv' := [(0, .ref 41), (1, .int (nI (k))), (2, .int (nI (rd))), (3, .long ((jMin (fun o => f o + (nI (w 1)).toInt64 * jStrain s r k rd o) o).1)), (5, .int (nI ((jMin (fun o => f o + (nI (w 1)).toInt64 * jStrain s r k rd o) o).2))), (6, .int (nI (o + 1))), (7, .long ((f o) + (((nI (w 1)).toInt64) * (jStrain s r k rd o))))]) dX1_joinReading_74 rfl rfl (by decide) rfl ?_
          refine aX_goto (tgt := 10) dX1_joinReading_77 (by decide) ?_
          refine aX_lv (lv' := [(0, .ref 41), (1, .int (nI (k))), (2, .int (nI (rd))), (3, .long ((jMin (fun o => f o + (nI (w 1)).toInt64 * jStrain s r k rd o) o).1)), (5, .int (nI ((jMin (fun o => f o + (nI (w 1)).toInt64 * jStrain s r k rd o) o).2))), (6, .int (nI (o + 1)))]) [0, 1, 2, 3, 4, 5] rfl ?_
          have hj : jMin (fun o => f o + (nI (w 1)).toInt64 * jStrain s r k rd o) (o + 1) = jMin (fun o => f o + (nI (w 1)).toInt64 * jStrain s r k rd o) o := jMin_no (by assumption)
          have := ih (jCn s r (k + 1) - (o + 1)) (by omega) (o + 1) (by omega) rfl
          rw [hj] at this
          exact this
        · refine aX_lload dX1_joinReading_67 rfl ?_
          refine aX_lstore_n (lv' := [(0, .ref 41), (1, .int (nI (k))), (2, .int (nI (rd))), (3, .long ((f o) + (((nI (w 1)).toInt64) * (jStrain s r k rd o)))), (5, .int (nI ((jMin (fun o => f o + (nI (w 1)).toInt64 * jStrain s r k rd o) o).2))), (6, .int (nI (o))), (7, .long ((f o) + (((nI (w 1)).toInt64) * (jStrain s r k rd o))))]) dX1_joinReading_69 (by decide) rfl ?_
          refine aX_iload dX1_joinReading_70 rfl ?_
          refine aX_istore (lv' := [(0, .ref 41), (1, .int (nI (k))), (2, .int (nI (rd))), (3, .long ((f o) + (((nI (w 1)).toInt64) * (jStrain s r k rd o)))), (5, .int (nI (o))), (6, .int (nI (o))), (7, .long ((f o) + (((nI (w 1)).toInt64) * (jStrain s r k rd o))))]) dX1_joinReading_72 (by decide) rfl ?_
          refine nInc (lv' := [(0, .ref 41), (1, .int (nI (k))), (2, .int (nI (rd))), (3, .long ((f o) + (((nI (w 1)).toInt64) * (jStrain s r k rd o)))), (5, .int (nI (o))), (6, .int (nI (o + 1))), (7, .long ((f o) + (((nI (w 1)).toInt64) * (jStrain s r k rd o))))]) dX1_joinReading_74 rfl rfl (by decide) rfl ?_
          refine aX_goto (tgt := 10) dX1_joinReading_77 (by decide) ?_
          refine aX_lv (lv' := [(0, .ref 41), (1, .int (nI (k))), (2, .int (nI (rd))), (3, .long ((f o) + (((nI (w 1)).toInt64) * (jStrain s r k rd o)))), (5, .int (nI (o))), (6, .int (nI (o + 1)))]) [0, 1, 2, 3, 4, 5] rfl ?_
          have hj : jMin (fun o => f o + (nI (w 1)).toInt64 * jStrain s r k rd o) (o + 1) = ((f o) + (((nI (w 1)).toInt64) * (jStrain s r k rd o)), o) := jMin_yes (by assumption)
          have := ih (jCn s r (k + 1) - (o + 1)) (by omega) (o + 1) (by omega) rfl
          rw [hj] at this
          exact this
set_option maxHeartbeats 1000000 in
theorem c_joinReading {I : Nat → Nat → Int32} {L : Nat → Nat → Int64} {R : Nat → Nat → Option Nat} (hR : aRf R) {s : jN} (hc : cRep I s) {r : jR} {w : jW} (hw : wRep I w) {k : Nat} (hk : k + 1 < (jS s).length) (hct : ctRep I s r) (hcm : cmRep I (jCm s k)) (ho1 : ∀ rd j m, rd < jCn s r k → (jCm s k)[j]? = some m → I 47 (rd * 6 + j) = jOff s r k rd m) (ho2 : ∀ rd j m, rd < jCn s r (k + 1) → (jCm s k)[j]? = some m → I 48 (rd * 6 + j) = jOff s r (k + 1) rd m) {rd : Nat} (hrd : rd < jCn s r k) {f : Nat → Int64} (hf : ∀ o, o < jCn s r (k + 1) → L 45 o = f o) (hns : ∀ o, o < jCn s r (k + 1) → f o ≤ f o + (nI (w 1)).toInt64 * jStrain s r k rd o) : aM mX1_joinReading [.ref 41, .int (nI k), .int (nI rd)] (sh0, I, L, R) (fun ans h' => ans = none ∧ h' = (sh0, aU I 46 (k * 64 + rd) (nI (jMin (fun o => f o + (nI (w 1)).toInt64 * jStrain s r k rd o) (jCn s r (k + 1))).2), aU L 44 rd (L 44 rd + (jMin (fun o => f o + (nI (w 1)).toInt64 * jStrain s r k rd o) (jCn s r (k + 1))).1), R)) := by
  refine aM_of plX1_joinReading (Nat.le_of_ble_eq_true rfl) ?_
  refine aX_ldc2 (v := (4611686018427387904)) dX1_joinReading_0 lkX1_112 ?_
  refine aX_lstore_n (lv' := [(0, .ref 41), (1, .int (nI (k))), (2, .int (nI (rd))), (3, .long ((4611686018427387904 : Int64)))]) dX1_joinReading_3 (by decide) rfl ?_
  refine aX_iconst (v := nI 0) dX1_joinReading_4 (by decide) ?_
  refine aX_istore (lv' := [(0, .ref 41), (1, .int (nI (k))), (2, .int (nI (rd))), (3, .long ((4611686018427387904 : Int64))), (5, .int (nI (0)))]) dX1_joinReading_5 (by decide) rfl ?_
  refine aX_iconst (v := nI 0) dX1_joinReading_7 (by decide) ?_
  refine aX_istore (lv' := [(0, .ref 41), (1, .int (nI (k))), (2, .int (nI (rd))), (3, .long ((4611686018427387904 : Int64))), (5, .int (nI (0))), (6, .int (nI (0)))]) dX1_joinReading_8 (by decide) rfl ?_
  exact l_joinReading hR hc hw hk hct hcm ho1 ho2 hrd hf hns _ 0 (by omega) rfl
set_option maxHeartbeats 1000000 in
theorem l_joinNext {I : Nat → Nat → Int32} {L : Nat → Nat → Int64} {R : Nat → Nat → Option Nat} (hR : aRf R) {s : jN} (hc : cRep I s) {r : jR} (hr : rRep I r) {w : jW} (hw : wRep I w) {k : Nat} (hk : k + 1 < (jS s).length) (hct : ctRep I s r) {f : Nat → Int64} (hf : ∀ o, o < jCn s r (k + 1) → L 45 o = f o) (hns : ∀ rd o, rd < jCn s r k → o < jCn s r (k + 1) → f o ≤ f o + (nI (w 1)).toInt64 * jStrain s r k rd o) : ∀ (k9 i : Nat), i ≤ jCn s r k → (jCn s r k) - i = k9 → ∀ (I1 : Nat → Nat → Int32) (L1 : Nat → Nat → Int64), cmRep I1 (jCm s k) → (∀ rd j m, rd < jCn s r k → (jCm s k)[j]? = some m → I1 47 (rd * 6 + j) = jOff s r k rd m) → (∀ rd j m, rd < jCn s r (k + 1) → (jCm s k)[j]? = some m → I1 48 (rd * 6 + j) = jOff s r (k + 1) rd m) → (∀ rd, rd < i → L1 44 rd = L 44 rd + (jMin (fun o => f o + (nI (w 1)).toInt64 * jStrain s r k rd o) (jCn s r (k + 1))).1 ∧ I1 46 (k * 64 + rd) = nI (jMin (fun o => f o + (nI (w 1)).toInt64 * jStrain s r k rd o) (jCn s r (k + 1))).2) → (∀ rd, i ≤ rd → L1 44 rd = L 44 rd) → (∀ q j, q ≠ 27 → ¬ (q = 16 ∧ j = 13) → q ≠ 40 → q ≠ 47 → q ≠ 48 → ¬ (q = 46 ∧ k * 64 ≤ j ∧ j < k * 64 + 64) → I1 q j = I q j) → lK 44 44 L L1 → aX mX1_joinNext aE0 (sh0, I1, L1, R) 30 [(0, .ref 41), (1, .int (nI (k))), (2, .int (nI (i)))] [] 0 0 (fun ans h' => ans = none ∧ ∃ I' L', h' = (sh0, I', L', R) ∧ (∀ rd, rd < jCn s r k → L' 44 rd = L 44 rd + (jMin (fun o => f o + (nI (w 1)).toInt64 * jStrain s r k rd o) (jCn s r (k + 1))).1 ∧ I' 46 (k * 64 + rd) = nI (jMin (fun o => f o + (nI (w 1)).toInt64 * jStrain s r k rd o) (jCn s r (k + 1))).2) ∧ (∀ q j, q ≠ 27 → ¬ (q = 16 ∧ j = 13) → q ≠ 40 → q ≠ 47 → q ≠ 48 → ¬ (q = 46 ∧ k * 64 ≤ j ∧ j < k * 64 + 64) → I' q j = I q j) ∧ lK 44 44 L L') := by
  intro k9
  induction k9 using Nat.strongRecOn with
  | _ k9 ih =>
    intro i hi hk9 I1  L1  hcm ho1 ho2 hdn hup hke hkl
    obtain ⟨hs, ho, h6, hS, hV⟩ := id hc
    have hn := ho.1
    have hSl := jS_len s
    have hl1 := jCn_le (s := s) (r := r) (k := k)
    have hl2 := jCn_le (s := s) (r := r) (k := k + 1)
    have hkp : hK 40 48 I I1 := fun q j h1 h2 h3 => hke q j h2 h1 (by omega) (by omega) (by omega) (by omega)
    have hc1 := cRep_hK hkp (by decide) hc
    have hw1 := wRep_hK hkp (by decide) hw
    have hct1 : ctRep I1 s r := fun x hx => (hke 43 x (by omega) (by omega) (by omega) (by omega) (by omega) (by omega)).trans (hct x hx)
    refine aX_iload_n dX1_joinNext_30 rfl ?_
    refine aX_aload_n dX1_joinNext_31 rfl ?_
    refine aX_get dX1_joinNext_32 lfX1_15 s41 (f41_4 hR) ?_
    refine aX_iload_n dX1_joinNext_35 rfl ?_
    refine nIald (v := nI (jCn s r k)) dX1_joinNext_36 s43 (by first | omega | exact Nat.lt_of_le_of_lt (Nat.mod_le _ _) (by omega)) (by decide) (hct1 k (by omega)) ?_
    refine nGe (tgt := 52) dX1_joinNext_37 (by decide) (by first | omega | exact Nat.lt_of_le_of_lt (Nat.mod_le _ _) (by omega)) (by first | omega | exact Nat.lt_of_le_of_lt (Nat.mod_le _ _) (by omega)) (fun c1 => ?_) (fun c1 => ?_)
    · exact rV dX1_joinNext_52 rfl (⟨rfl, I1, L1, rfl, fun rd hrd => hdn rd (by omega), hke, hkl⟩)
    · refine aX_aload_n dX1_joinNext_40 rfl ?_
      refine aX_iload_n dX1_joinNext_41 rfl ?_
      refine aX_iload_n dX1_joinNext_42 rfl ?_
      refine cV (As := [.int (nI (k)), .int (nI (i))]) (st := []) dX1_joinNext_43 kX1_joinNext_97 s41 aEok0 rfl rfl (Nat.le_of_ble_eq_true rfl) (c_joinReading hR hc1 hw1 hk hct1 hcm ho1 ho2 (by omega) (fun o ho => (hkl 45 o (by omega)).trans (hf o ho)) (fun o ho => hns i o (by omega) ho)) (fun r h' hq9 => ?_)
      obtain ⟨rfl, rfl⟩ := hq9
      refine ⟨rfl, ?_⟩
      refine nInc (lv' := [(0, .ref 41), (1, .int (nI (k))), (2, .int (nI (i + 1)))]) dX1_joinNext_46 rfl rfl (by decide) rfl ?_
      refine aX_goto (tgt := 30) dX1_joinNext_49 (by decide) ?_
      exact ih (jCn s r k - (i + 1)) (by omega) (i + 1) (by omega) rfl _ _ ⟨by rw [aU_n (by omega)]; exact hcm.1, fun j m hj => by rw [aU_n (by omega)]; exact hcm.2 j m hj⟩ (fun rd j m h1 h2 => by rw [aU_n (by omega)]; exact ho1 rd j m h1 h2) (fun rd j m h1 h2 => by rw [aU_n (by omega)]; exact ho2 rd j m h1 h2)
        (fun rd hrd => by
          by_cases e : rd = i
          · subst e; rw [aU_s, aU_s, hup rd (Nat.le_refl _)]; exact ⟨rfl, rfl⟩
          · rw [aU_n (by omega), aU_n (by omega)]; exact hdn rd (by omega))
        (fun rd hrd => by rw [aU_n (by omega)]; exact hup rd (by omega))
        (fun q j h1 h2 h3 h4 h5 h6 => by rw [aU_n (by omega)]; exact hke q j h1 h2 h3 h4 h5 h6) (lK_set hkl (by decide) (by decide))
set_option maxHeartbeats 1000000 in
theorem c_joinNext {I : Nat → Nat → Int32} {L : Nat → Nat → Int64} {R : Nat → Nat → Option Nat} (hR : aRf R) {s : jN} (hc : cRep I s) {r : jR} (hr : rRep I r) {w : jW} (hw : wRep I w) {k : Nat} (hk : k + 1 < (jS s).length) (hct : ctRep I s r) {f : Nat → Int64} (hf : ∀ o, o < jCn s r (k + 1) → L 45 o = f o) (hns : ∀ rd o, rd < jCn s r k → o < jCn s r (k + 1) → f o ≤ f o + (nI (w 1)).toInt64 * jStrain s r k rd o) : aM mX1_joinNext [.ref 41, .int (nI k)] (sh0, I, L, R) (fun ans h' => ans = none ∧ ∃ I' L', h' = (sh0, I', L', R) ∧ (∀ rd, rd < jCn s r k → L' 44 rd = L 44 rd + (jMin (fun o => f o + (nI (w 1)).toInt64 * jStrain s r k rd o) (jCn s r (k + 1))).1 ∧ I' 46 (k * 64 + rd) = nI (jMin (fun o => f o + (nI (w 1)).toInt64 * jStrain s r k rd o) (jCn s r (k + 1))).2) ∧ (∀ q j, q ≠ 27 → ¬ (q = 16 ∧ j = 13) → q ≠ 40 → q ≠ 47 → q ≠ 48 → ¬ (q = 46 ∧ k * 64 ≤ j ∧ j < k * 64 + 64) → I' q j = I q j) ∧ lK 44 44 L L') := by
  obtain ⟨hs, ho, h6, hS, hV⟩ := id hc
  have hn := ho.1
  have hSl := jS_len s
  obtain ⟨q0, hq0, hb0⟩ := jQ (s := s) (k := k) (by omega)
  obtain ⟨q1, hq1, hb1⟩ := jQ hk
  replace hb0 := hb0.symm
  replace hb1 := hb1.symm
  refine aM_of plX1_joinNext (Nat.le_of_ble_eq_true rfl) ?_
  refine aX_aload_n dX1_joinNext_0 rfl ?_
  refine aX_get dX1_joinNext_1 lfX1_34 s41 (f41_0 hR) ?_
  refine aX_iload_n dX1_joinNext_4 rfl ?_
  refine cV (As := [.int (nI (k))]) (st := []) dX1_joinNext_5 kX1_joinNext_90 s16 aEok0 rfl rfl (Nat.le_of_ble_eq_true rfl) (c_findCommon hR hc hq0 hq1) (fun r h' hq9 => ?_)
  obtain ⟨rfl, I2, rfl, hcm2, hkp2⟩ := hq9
  refine ⟨rfl, ?_⟩
  have hc2 := cRep_cm hkp2 hc
  have hr2 := rRep_hK (hK_cm (a := 40) (b := 48) hkp2) (by decide) hr
  have hct2 : ctRep I2 s r := fun x hx => (hkp2 43 x (by omega) (by omega)).trans (hct x hx)
  refine aX_aload_n dX1_joinNext_8 rfl ?_
  refine aX_iload_n dX1_joinNext_9 rfl ?_
  refine aX_aload_n dX1_joinNext_10 rfl ?_
  refine aX_get dX1_joinNext_11 lfX1_28 s41 (f41_8 hR) ?_
  refine cV (As := [.int (nI (k)), .ref 47]) (st := []) dX1_joinNext_14 kX1_joinNext_93 s41 aEok0 rfl rfl (Nat.le_of_ble_eq_true rfl) (c_fill47 hR hc2 hr2 (k := k) (by omega) hcm2 (jCm_len h6) (fun j m hj => by have := jCm_mem hq0 hq1 hj; rw [hb0]; exact ⟨this.1, this.2.1⟩) hct2) (fun r h' hq9 => ?_)
  obtain ⟨rfl, I3, rfl, ho3, hk3⟩ := hq9
  refine ⟨rfl, ?_⟩
  have hK3 : hK 40 48 I2 I3 := fun q j _ _ h3 => hk3 q j (by omega) (by omega)
  have hc3 := cRep_hK hK3 (by decide) hc2
  have hr3 := rRep_hK hK3 (by decide) hr2
  have hct3 : ctRep I3 s r := fun x hx => (hk3 43 x (by omega) (by omega)).trans (hct2 x hx)
  have hcm3 : cmRep I3 (jCm s k) := ⟨(hk3 16 13 (by omega) (by omega)).trans hcm2.1, fun j m hj => (hk3 27 j (by omega) (by omega)).trans (hcm2.2 j m hj)⟩
  refine aX_aload_n dX1_joinNext_17 rfl ?_
  refine aX_iload_n dX1_joinNext_18 rfl ?_
  refine aX_iconst (v := nI 1) dX1_joinNext_19 (by decide) ?_
  refine nAdd dX1_joinNext_20 ?_
  refine aX_aload_n dX1_joinNext_21 rfl ?_
  refine aX_get dX1_joinNext_22 lfX1_31 s41 (f41_9 hR) ?_
  refine cV (As := [.int (nI (k + 1)), .ref 48]) (st := []) dX1_joinNext_25 kX1_joinNext_93 s41 aEok0 rfl rfl (Nat.le_of_ble_eq_true rfl) (c_fill48 hR hc3 hr3 (k := k + 1) hk hcm3 (jCm_len h6) (fun j m hj => by have := jCm_mem hq0 hq1 hj; rw [hb1]; exact ⟨this.1, this.2.2⟩) hct3) (fun r h' hq9 => ?_)
  obtain ⟨rfl, I4, rfl, ho4, hk4⟩ := hq9
  refine ⟨rfl, ?_⟩
  refine aX_iconst (v := nI 0) dX1_joinNext_28 (by decide) ?_
  refine aX_istore_n (lv' := [(0, .ref 41), (1, .int (nI (k))), (2, .int (nI (0)))]) dX1_joinNext_29 (by decide) rfl ?_
  exact l_joinNext hR hc hr hw hk hct hf hns _ 0 (by omega) rfl I4 L ⟨(hk4 16 13 (by omega) (by omega)).trans hcm3.1, fun j m hj => (hk4 27 j (by omega) (by omega)).trans (hcm3.2 j m hj)⟩ (fun rd j m h1 h2 => (hk4 47 _ (by omega) (by omega)).trans (ho3 rd j m h1 h2)) ho4 (fun rd hrd => by omega) (fun _ _ => rfl) (fun q j h1 h2 h3 h4 h5 h6 => (hk4 q j h3 h5).trans ((hk3 q j h3 h4).trans (hkp2 q j h2 h1))) lK_refl
