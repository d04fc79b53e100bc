/-! THE SQUARES: chords, all sets -/
theorem cgRep_hK {a b : Nat} {I I' : Nat → Nat → Int32} {s : jN} {ch : Nat → Nat} (h : hK a b I I') (ha : 42 < a ∨ b < 42) (hc : cgRep I s ch) : cgRep I' s ch := fun k hk => ⟨(h 42 k (by omega) (by omega) (by omega)).trans (hc k hk).1, (hc k hk).2⟩
set_option maxHeartbeats 1000000 in
theorem l_addChordIn {I : Nat → Nat → Int32} {L : Nat → Nat → Int64} {R : Nat → Nat → Option Nat} (hR : aRf R){S : jQt} {s : jN} (hc : cRep I s) {r : jR} (hr : rRep I r) {w : jW} (hw : wRep I w) {ch : Nat → Nat} {k : Nat} (hk : k < (jS s).length) (hsz : I 53 4 = nI (jVn s)) (hvn : jVn s ≤ 20) {q : Nat × Nat} (hq : (jS s)[k]? = some q) (hqb : q.1 = jB s k) (hop : opRep I s r q.1 (ch k)) {i m : Nat} (hm : (jMem s q.1)[i]? = some m) {Q : Option Value → aH → Prop} (kk : ∀ (L2 : Nat → Nat → Int64) (S2 : jQt), qRep L2 S2 → lK 53 75 L L2 → ((jMem s q.1).drop (i + 1)).foldl (fun a x => jChF s r ch w k a m x) S = S2 → aX mX7_addChord aE0 (sh0, I, L2, R) 146 [(0, .ref 53), (1, .int (nI k)), (2, .int (nI (k * 6))), (3, .int (nI i)), (4, .int (nI m)), (5, .int (nI (jSnd s q.1)))] [] 0 0 Q) : ∀ (k9 j : Nat), j ≤ jSnd s q.1 → (jSnd s q.1) - j = k9 → ∀ (L1 : Nat → Nat → Int64) (S1 : jQt), i < j → qRep L1 S1 → lK 53 75 L L1 → ((jMem s q.1).drop j).foldl (fun a x => jChF s r ch w k a m x) S1 = ((jMem s q.1).drop (i + 1)).foldl (fun a x => jChF s r ch w k a m x) S → aX mX7_addChord aE0 (sh0, I, L1, R) 55 [(0, .ref 53), (1, .int (nI (k))), (2, .int (nI (k * 6))), (3, .int (nI (i))), (4, .int (nI (m))), (5, .int (nI (j)))] [] 0 0 Q := by
  intro k9
  induction k9 using Nat.strongRecOn with
  | _ k9 ih =>
    intro j hi hk9 L1  S1  hij hqr hl hf
    obtain ⟨hs, ho, h6, hS, hV⟩ := id hc
    have hn := ho.1
    have hSl := jS_len s
    have hse := hS.2 k q hq
    have hsl := h6 q.1
    have hw2 := (hw.1.2 2 (by decide) (by decide))
    have hml := jMem_lt hm
    have honm : jOn s m (jB s k) = true := by rw [← hqb]; exact hml.2
    have hvm := jV_lt hk hml.1 honm
    refine aX_iload dX7_addChord_55 rfl ?_
    refine aX_aload_n dX7_addChord_57 rfl ?_
    refine aX_get dX7_addChord_58 lfX7_24 s53 (f53_0 hR) ?_
    refine aX_get dX7_addChord_61 lfX7_97 s16 (f16_9 hR) ?_
    refine aX_iload_n dX7_addChord_64 rfl ?_
    refine nIald (v := nI (jSnd s q.1)) dX7_addChord_65 s24 (by first | omega | exact Nat.lt_of_le_of_lt (Nat.mod_le _ _) (by omega)) (by decide) (hse.2.2.2.1) ?_
    refine nGe (tgt := 146) dX7_addChord_66 (by decide) (by first | omega | exact Nat.lt_of_le_of_lt (Nat.mod_le _ _) (by omega)) (by first | omega | exact Nat.lt_of_le_of_lt (Nat.mod_le _ _) (by omega)) (fun c1 => ?_) (fun c1 => ?_)
    · obtain rfl : j = jSnd s q.1 := by omega
      exact kk L1 S1 hqr hl (by rw [← hf, List.drop_of_length_le (by rw [jMem_len]; omega)]; rfl)
    · obtain ⟨x, hx⟩ : ∃ m, (jMem s q.1)[j]? = some m := ⟨_, List.getElem?_eq_getElem (by rw [jMem_len]; exact c1)⟩
      have hxl := jMem_lt hx
      have hxj := jMem_jlt h6 hx
      have honx : jOn s x (jB s k) = true := by rw [← hqb]; exact hxl.2
      have hvx := jV_lt hk hxl.1 honx
      refine aX_aload_n dX7_addChord_69 rfl ?_
      refine aX_get dX7_addChord_70 lfX7_24 s53 (f53_0 hR) ?_
      refine aX_get dX7_addChord_73 lfX7_100 s16 (f16_10 hR) ?_
      refine aX_iload_n dX7_addChord_76 rfl ?_
      refine aX_iload dX7_addChord_77 rfl ?_
      refine nAdd dX7_addChord_79 ?_
      refine nIald (v := nI (x)) dX7_addChord_80 s25 (by first | omega | exact Nat.lt_of_le_of_lt (Nat.mod_le _ _) (by omega)) (by decide) (hse.2.2.2.2 j x hx) ?_
      refine aX_istore (lv' := [(0, .ref 53), (1, .int (nI (k))), (2, .int (nI (k * 6))), (3, .int (nI (i))), (4, .int (nI (m))), (5, .int (nI (j))), (6, .int (nI (x)))]) dX7_addChord_81 (by decide) rfl ?_
      refine aX_aload_n dX7_addChord_83 rfl ?_
      refine aX_get dX7_addChord_84 lfX7_28 s53 (f53_1 hR) ?_
      refine aX_iload_n dX7_addChord_87 rfl ?_
      refine aX_iload dX7_addChord_88 rfl ?_
      refine cVp (As := [.int (nI (k)), .int (nI (m))]) (st := []) (v := .int (jDv s r q.1 (ch k) m)) dX7_addChord_90 kX7_addChord_103 s39 aEok0 rfl rfl (Nat.le_of_ble_eq_true rfl) (c_deviationOf hR hc hq hml.1 hml.2 hr hop) ?_
      refine aX_aload_n dX7_addChord_93 rfl ?_
      refine aX_get dX7_addChord_94 lfX7_28 s53 (f53_1 hR) ?_
      refine aX_iload_n dX7_addChord_97 rfl ?_
      refine aX_iload dX7_addChord_98 rfl ?_
      refine cVp (As := [.int (nI (k)), .int (nI (x))]) (st := [.int (jDv s r q.1 (ch k) m)]) (v := .int (jDv s r q.1 (ch k) x)) dX7_addChord_100 kX7_addChord_103 s39 aEok0 rfl rfl (Nat.le_of_ble_eq_true rfl) (c_deviationOf hR hc hq hxl.1 hxl.2 hr hop) ?_
      refine aX_isub dX7_addChord_103 ?_
      refine aX_i2l dX7_addChord_104 ?_
      refine aX_lstore (lv' := [(0, .ref 53), (1, .int (nI (k))), (2, .int (nI (k * 6))), (3, .int (nI (i))), (4, .int (nI (m))), (5, .int (nI (j))), (6, .int (nI (x))), (7, .long (((jDv s r q.1 (ch k) m) - (jDv s r q.1 (ch k) x)).toInt64))]) dX7_addChord_105 (by decide) rfl ?_
      refine aX_aload_n dX7_addChord_107 rfl ?_
      refine aX_aload_n dX7_addChord_108 rfl ?_
      refine aX_get dX7_addChord_109 lfX7_24 s53 (f53_0 hR) ?_
      refine aX_iload_n dX7_addChord_112 rfl ?_
      refine aX_iload dX7_addChord_113 rfl ?_
      refine cVp (As := [.int (nI (k)), .int (nI (m))]) (st := [.ref 53]) (v := .int (nI (jV s k m))) dX7_addChord_115 kX7_addChord_106 s16 aEok0 rfl rfl (Nat.le_of_ble_eq_true rfl) (c_varOf hR hc hk hml.1 honm) ?_
      refine aX_aload_n dX7_addChord_118 rfl ?_
      refine aX_get dX7_addChord_119 lfX7_24 s53 (f53_0 hR) ?_
      refine aX_iload_n dX7_addChord_122 rfl ?_
      refine aX_iload dX7_addChord_123 rfl ?_
      refine cVp (As := [.int (nI (k)), .int (nI (x))]) (st := [.int (nI (jV s k m)), .ref 53]) (v := .int (nI (jV s k x))) dX7_addChord_125 kX7_addChord_106 s16 aEok0 rfl rfl (Nat.le_of_ble_eq_true rfl) (c_varOf hR hc hk hxl.1 honx) ?_
      refine aX_aload_n dX7_addChord_128 rfl ?_
      refine aX_get dX7_addChord_129 lfX7_36 s53 (f53_3 hR) ?_
      refine aX_iconst (v := nI 2) dX7_addChord_132 (by decide) ?_
      refine nIald (v := nI (w 2)) dX7_addChord_133 s9 (by first | omega | exact Nat.lt_of_le_of_lt (Nat.mod_le _ _) (by omega)) (by decide) (hw.2 2 (by decide)) ?_
      refine kI2l dX7_addChord_134 (by first | omega | exact Nat.lt_of_le_of_lt (Nat.mod_le _ _) (by omega)) ?_
      refine aX_lload dX7_addChord_135 rfl ?_
      refine cV (As := [.int (nI (jV s k m)), .int (nI (jV s k x)), .long (lN (w 2)), .long (((jDv s r q.1 (ch k) m) - (jDv s r q.1 (ch k) x)).toInt64)]) (st := []) dX7_addChord_137 kX7_addChord_109 s53 aEok0 rfl rfl (Nat.le_of_ble_eq_true rfl) (by rw [kZ, lZ_i2l']; exact c_addPair hR hqr hsz hvn hvm hvx) (fun r h' hq9 => ?_)
      obtain ⟨rfl, L2, rfl, hq2, hl2⟩ := hq9
      refine ⟨rfl, ?_⟩
      refine nInc (lv' := [(0, .ref 53), (1, .int (nI (k))), (2, .int (nI (k * 6))), (3, .int (nI (i))), (4, .int (nI (m))), (5, .int (nI (j + 1))), (6, .int (nI (x))), (7, .long (((jDv s r q.1 (ch k) m) - (jDv s r q.1 (ch k) x)).toInt64))]) dX7_addChord_140 rfl rfl (by decide) rfl ?_
      refine aX_goto (tgt := 55) dX7_addChord_143 (by decide) ?_
      refine aX_lv (lv' := [(0, .ref 53), (1, .int (nI (k))), (2, .int (nI (k * 6))), (3, .int (nI (i))), (4, .int (nI (m))), (5, .int (nI (j + 1)))]) [0, 1, 2, 3, 4, 5] rfl ?_
      exact ih (jSnd s q.1 - (j + 1)) (by omega) (j + 1) (by omega) rfl L2 _ (by omega) hq2 (lK_trans hl hl2) (by rw [← hf, drop_at hx]; show _ = List.foldl _ (jChF s r ch w k S1 m x) _; unfold jChF jTd; rw [hqb])
set_option maxHeartbeats 1000000 in
theorem l_addChord {I : Nat → Nat → Int32} {L : Nat → Nat → Int64} {R : Nat → Nat → Option Nat} (hR : aRf R){S : jQt} {s : jN} (hc : cRep I s) {r : jR} (hr : rRep I r) {w : jW} (hw : wRep I w) {ch : Nat → Nat} {k : Nat} (hk : k < (jS s).length) (hsz : I 53 4 = nI (jVn s)) (hvn : jVn s ≤ 20) {q : Nat × Nat} (hq : (jS s)[k]? = some q) (hqb : q.1 = jB s k) (hop : opRep I s r q.1 (ch k)) : ∀ (k9 i : Nat), i ≤ jSnd s q.1 → (jSnd s q.1) - i = k9 → ∀ (L1 : Nat → Nat → Int64) (S1 : jQt), qRep L1 S1 → lK 53 75 L L1 → pairsF (jChF s r ch w k) ((jMem s q.1).drop i) S1 = pairsF (jChF s r ch w k) (jMem s q.1) S → aX mX7_addChord aE0 (sh0, I, L1, R) 24 [(0, .ref 53), (1, .int (nI (k))), (2, .int (nI (k * 6))), (3, .int (nI (i)))] [] 0 0 (fun ans h' => ans = none ∧ ∃ L', h' = (sh0, I, L', R) ∧ qRep L' (jChord s r ch w k S) ∧ lK 53 75 L L') := by
  intro k9
  induction k9 using Nat.strongRecOn with
  | _ k9 ih =>
    intro i hi hk9 L1  S1  hqr hl hf
    obtain ⟨hs, ho, h6, hS, hV⟩ := id hc
    have hn := ho.1
    have hSl := jS_len s
    have hse := hS.2 k q hq
    have hsl := h6 q.1
    have hw2 := (hw.1.2 2 (by decide) (by decide))
    refine aX_iload_n dX7_addChord_24 rfl ?_
    refine aX_aload_n dX7_addChord_25 rfl ?_
    refine aX_get dX7_addChord_26 lfX7_24 s53 (f53_0 hR) ?_
    refine aX_get dX7_addChord_29 lfX7_97 s16 (f16_9 hR) ?_
    refine aX_iload_n dX7_addChord_32 rfl ?_
    refine nIald (v := nI (jSnd s q.1)) dX7_addChord_33 s24 (by first | omega | exact Nat.lt_of_le_of_lt (Nat.mod_le _ _) (by omega)) (by decide) (hse.2.2.2.1) ?_
    refine nGe (tgt := 152) dX7_addChord_34 (by decide) (by first | omega | exact Nat.lt_of_le_of_lt (Nat.mod_le _ _) (by omega)) (by first | omega | exact Nat.lt_of_le_of_lt (Nat.mod_le _ _) (by omega)) (fun c1 => ?_) (fun c1 => ?_)
    · exact rV dX7_addChord_152 rfl (⟨rfl, L1, rfl, by unfold jChord; rw [← hqb, ← hf, List.drop_of_length_le (by rw [jMem_len]; omega)]; exact hqr, hl⟩)
    · obtain ⟨m, hm⟩ : ∃ m, (jMem s q.1)[i]? = some m := ⟨_, List.getElem?_eq_getElem (by rw [jMem_len]; exact c1)⟩
      have hml := jMem_lt hm
      have hmj := jMem_jlt h6 hm
      have honm : jOn s m (jB s k) = true := by rw [← hqb]; exact hml.2
      have hvm := jV_lt hk hml.1 honm
      refine aX_aload_n dX7_addChord_37 rfl ?_
      refine aX_get dX7_addChord_38 lfX7_24 s53 (f53_0 hR) ?_
      refine aX_get dX7_addChord_41 lfX7_100 s16 (f16_10 hR) ?_
      refine aX_iload_n dX7_addChord_44 rfl ?_
      refine aX_iload_n dX7_addChord_45 rfl ?_
      refine nAdd dX7_addChord_46 ?_
      refine nIald (v := nI (m)) dX7_addChord_47 s25 (by first | omega | exact Nat.lt_of_le_of_lt (Nat.mod_le _ _) (by omega)) (by decide) (hse.2.2.2.2 i m hm) ?_
      refine aX_istore (lv' := [(0, .ref 53), (1, .int (nI (k))), (2, .int (nI (k * 6))), (3, .int (nI (i))), (4, .int (nI (m)))]) dX7_addChord_48 (by decide) rfl ?_
      refine aX_iload_n dX7_addChord_50 rfl ?_
      refine aX_iconst (v := nI 1) dX7_addChord_51 (by decide) ?_
      refine nAdd dX7_addChord_52 ?_
      refine aX_istore (lv' := [(0, .ref 53), (1, .int (nI (k))), (2, .int (nI (k * 6))), (3, .int (nI (i))), (4, .int (nI (m))), (5, .int (nI (i + 1)))]) dX7_addChord_53 (by decide) rfl ?_
      refine l_addChordIn hR hc hr hw hk hsz hvn hq hqb hop hm (L := L1) (S := S1) (fun L2 S2 g1 g2 g3 => ?_) _ (i + 1) (by omega) rfl L1 S1 (by omega) hqr lK_refl rfl
      refine nInc (lv' := [(0, .ref 53), (1, .int (nI (k))), (2, .int (nI (k * 6))), (3, .int (nI (i + 1))), (4, .int (nI (m))), (5, .int (nI (jSnd s q.1)))]) dX7_addChord_146 rfl rfl (by decide) rfl ?_
      refine aX_goto (tgt := 24) dX7_addChord_149 (by decide) ?_
      refine aX_lv (lv' := [(0, .ref 53), (1, .int (nI (k))), (2, .int (nI (k * 6))), (3, .int (nI (i + 1)))]) [0, 1, 2, 3] rfl ?_
      exact ih (jSnd s q.1 - (i + 1)) (by omega) (i + 1) (by omega) rfl L2 _ g1 (lK_trans hl g2) (by rw [← hf, drop_at hm, ← g3]; rfl)
set_option maxHeartbeats 1000000 in
theorem c_addChord {I : Nat → Nat → Int32} {L : Nat → Nat → Int64} {R : Nat → Nat → Option Nat} (hR : aRf R){S : jQt} (hqr : qRep L S) {s : jN} (hc : cRep I s) {r : jR} (hr : rRep I r) {w : jW} (hw : wRep I w) {ch : Nat → Nat} {k : Nat} (hk : k < (jS s).length) (hsz : I 53 4 = nI (jVn s)) (hvn : jVn s ≤ 20) (hcg : cgRep I s ch) : aM mX7_addChord [.ref 53, .int (nI k)] (sh0, I, L, R) (fun ans h' => ans = none ∧ ∃ I' L', h' = (sh0, I', L', R) ∧ qRep L' (jChord s r ch w k S) ∧ opKeep I I' ∧ lK 53 75 L L') := by
  obtain ⟨q, hq, hqb⟩ := jQ hk
  have hSl := jS_len s
  refine aM_of plX7_addChord (Nat.le_of_ble_eq_true rfl) ?_
  refine aX_aload_n dX7_addChord_0 rfl ?_
  refine aX_get dX7_addChord_1 lfX7_28 s53 (f53_1 hR) ?_
  refine aX_iload_n dX7_addChord_4 rfl ?_
  refine aX_aload_n dX7_addChord_5 rfl ?_
  refine aX_get dX7_addChord_6 lfX7_32 s53 (f53_2 hR) ?_
  refine aX_get dX7_addChord_9 lfX7_86 s41 (f41_3 hR) ?_
  refine aX_iload_n dX7_addChord_12 rfl ?_
  refine nIald (v := nI (ch k)) dX7_addChord_13 s42 (by first | omega | exact Nat.lt_of_le_of_lt (Nat.mod_le _ _) (by omega)) (by decide) ((hcg k hk).1) ?_
  refine cV (As := [.int (nI (k)), .int (nI (ch k))]) (st := []) dX7_addChord_14 kX7_addChord_91 s39 aEok0 rfl rfl (Nat.le_of_ble_eq_true rfl) (c_open hR hc hq hr (hcg k hk).2) (fun r h' hq9 => ?_)
  obtain ⟨rfl, I2, rfl, hop, hk2⟩ := hq9
  refine ⟨rfl, ?_⟩
  have hc2 := cRep_op hk2 hc
  have hr2 := rRep_op hk2 hr
  have hw2 : wRep I2 w := ⟨hw.1, fun i hi => (hk2 9 i (by omega)).trans (hw.2 i hi)⟩
  have hsz2 : I2 53 4 = nI (jVn s) := (hk2 53 4 (by omega)).trans hsz
  refine aX_iload_n dX7_addChord_17 rfl ?_
  refine aX_bipush (v := nI 6) dX7_addChord_18 (by decide) ?_
  refine nMul dX7_addChord_20 ?_
  refine aX_istore_n (lv' := [(0, .ref 53), (1, .int (nI (k))), (2, .int (nI (k * 6)))]) dX7_addChord_21 (by decide) rfl ?_
  refine aX_iconst (v := nI 0) dX7_addChord_22 (by decide) ?_
  refine aX_istore_n (lv' := [(0, .ref 53), (1, .int (nI (k))), (2, .int (nI (k * 6))), (3, .int (nI (0)))]) dX7_addChord_23 (by decide) rfl ?_
  refine aX_mono (l_addChord hR hc2 hr2 hw2 (ch := ch) hk hsz2 hvn hq hqb hop _ 0 (by omega) rfl L S hqr lK_refl rfl) (fun ans h' hq9 => ?_)
  obtain ⟨rfl, L2, rfl, g1, g2⟩ := hq9
  exact ⟨rfl, I2, L2, rfl, g1, hk2, g2⟩
