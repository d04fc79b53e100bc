theorem jSh_0 {s : jN} {r : jR} {ch : Nat → Nat} {p : Nat} : jSh s r ch 0 p = 0 := rfl
theorem jSh_n {s : jN} {r : jR} {ch : Nat → Nat} {k p : Nat} (h : (jCm s k)[0]? = none) : jSh s r ch (k + 1) p = 0 := by unfold jSh; rw [h]
theorem jSh_s {s : jN} {r : jR} {ch : Nat → Nat} {k p m : Nat} (h : (jCm s k)[0]? = some m) : jSh s r ch (k + 1) p = jMu s r ch (k + 1) m (-1) (jMu s r ch k m 1 (jSh s r ch k)) p := by conv => lhs; unfold jSh; rw [h]
theorem jChn_n {s : jN} {k : Nat} (h : (jCm s k)[0]? = none) : jChn s (k + 1) = k + 1 := by unfold jChn; rw [h]
theorem jChn_s {s : jN} {k m : Nat} (h : (jCm s k)[0]? = some m) : jChn s (k + 1) = jChn s k := by conv => lhs; unfold jChn; rw [h]
set_option maxHeartbeats 1000000 in
theorem l_chains {I : Nat → Nat → Int32} {L : Nat → Nat → Int64} {R : Nat → Nat → Option Nat} (hR : aRf R) {s : jN} (hc : cRep I s) {r : jR} (hr : rRep I r) {ch : Nat → Nat} (hch : cgRep I s ch) : ∀ (k9 k : Nat), k ≤ (jS s).length → ((jS s).length) - k = k9 → ∀ (I1 : Nat → Nat → Int32), (∀ j, j < k → chIn I1 s r ch j) → (∀ q j, ¬ (q = 16 ∧ j = 13) → q ≠ 27 → q ≠ 40 → (q < 50 ∨ 52 < q) → I1 q j = I q j) → aX mX0_make aE0 (sh0, I1, L, R) 2 [(0, .ref 49), (1, .int (nI (k)))] [] 0 0 (fun ans h' => ans = none ∧ ∃ I', h' = (sh0, I', L, R) ∧ chRep I' s r ch ∧ cgRep I' s ch ∧ (∀ q j, ¬ (q = 16 ∧ j = 13) → q ≠ 27 → q ≠ 40 → (q < 50 ∨ 52 < q) → I' q j = I q j)) := by
  intro k9
  induction k9 using Nat.strongRecOn with
  | _ k9 ih =>
    intro k hi hk9 I1  hdn hke
    obtain ⟨hs, ho, h6, hS, hV⟩ := id hc
    have hn := ho.1
    have hSl := jS_len s
    have hkp : hK 40 52 I I1 := fun q j h1 h2 h3 => hke q j h1 h2 (by omega) (by omega)
    have hc1 := cRep_hK hkp (by decide) hc
    have hr1 := rRep_hK hkp (by decide) hr
    have hch1 : cgRep I1 s ch := fun x hx => ⟨(hke 42 x (by omega) (by omega) (by omega) (by omega)).trans (hch x hx).1, (hch x hx).2⟩
    refine aX_iload_n dX0_make_2 rfl ?_
    refine aX_aload_n dX0_make_3 rfl ?_
    refine aX_get dX0_make_4 lfX0_21 s49 (f49_0 hR) ?_
    refine aX_get (v := .int (nI ((jS s).length))) dX0_make_7 lfX0_37 s16 (congrArg Value.int (hc1.2.2.2.1.1)) ?_
    refine nGe (tgt := 72) dX0_make_10 (by decide) (by first | omega | exact Nat.lt_of_le_of_lt (Nat.mod_le _ _) (by omega)) (by first | omega | exact Nat.lt_of_le_of_lt (Nat.mod_le _ _) (by omega)) (fun c1 => ?_) (fun c1 => ?_)
    · exact rV dX0_make_72 rfl (⟨rfl, I1, rfl, fun j hj => hdn j (by omega), hch1, hke⟩)
    · cases k with
      | zero =>
        refine aX_aload_n dX0_make_13 rfl ?_
        refine aX_get dX0_make_14 lfX0_21 s49 (f49_0 hR) ?_
        refine aX_iload_n dX0_make_17 rfl ?_
        refine aX_iconst (v := nI 1) dX0_make_18 (by decide) ?_
        refine aX_isub dX0_make_19 ?_
        refine cV (As := [.int (nI 0 - nI 1)]) (st := []) dX0_make_20 kX0_make_43 s16 aEok0 rfl rfl (Nat.le_of_ble_eq_true rfl) (c_findCommon0 hR hc1 (by unfold jIx; rw [show decide (nI 0 - nI 1 < 0) = true from rfl]; rfl)) (fun r h' hq9 => ?_)
        obtain ⟨rfl, rfl⟩ := hq9
        refine ⟨rfl, ?_⟩
        have hc2 := cRep_hK (a := 40) (b := 52) (I' := aU I1 16 13 (nI 0)) (fun q j h1 h2 h3 => by rw [aU_n (by omega)]; exact hkp q j h1 h2 h3) (by decide) hc
        refine aX_aload_n dX0_make_23 rfl ?_
        refine aX_get dX0_make_24 lfX0_21 s49 (f49_0 hR) ?_
        refine aX_get (v := .int (nI (0))) dX0_make_27 lfX0_47 s16 (congrArg Value.int (show aU I1 16 13 (nI 0) 16 13 = nI 0 from aU_s)) ?_
        refine nIf_le (tgt := 50) dX0_make_30 (by decide) (by first | omega | exact Nat.lt_of_le_of_lt (Nat.mod_le _ _) (by omega)) (fun c2 => ?_) (fun c2 => ?_)
        · refine aX_aload_n dX0_make_50 rfl ?_
          refine aX_iload_n dX0_make_51 rfl ?_
          refine cV (As := [.int (nI (0))]) (st := []) dX0_make_52 kX0_make_57 s49 aEok0 rfl rfl (Nat.le_of_ble_eq_true rfl) (c_begin hR (k := 0) (by omega)) (fun r h' hq9 => ?_)
          obtain ⟨rfl, I3, rfl, g1', g2', g3'⟩ := hq9
          refine ⟨rfl, ?_⟩
          have hcn : jChn s (0) = 0 := rfl
          have g1 : I3 51 (0) = nI (jChn s (0)) := by rw [hcn]; exact g1'
          have g2 : ∀ p, p < 6 → I3 50 ((0) * 6 + p) = jSh s r ch (0) p := fun p hp => by rw [jSh_0]; exact g2' p hp
          have g3 : ∀ q j, ¬ (q = 16 ∧ j = 13) → q ≠ 27 → q ≠ 40 → ¬ (q = 51 ∧ j = 0) → ¬ (q = 50 ∧ (0) * 6 ≤ j ∧ j < (0) * 6 + 6) → I3 q j = I1 q j := fun q j h1 h2 h3 h4 h5 => (g3' q j h4 h5).trans (by rw [aU_n (by omega)])
          have hc3 := cRep_hK (a := 40) (b := 52) (fun q j h1 h2 h3 => (g3 q j h1 h2 (by omega) (by omega) (by omega)).trans (hkp q j h1 h2 h3)) (by decide) hc
          have hlk := jChn_le s (0)
          refine aX_aload_n dX0_make_55 rfl ?_
          refine aX_get dX0_make_56 lfX0_18 s49 (f49_6 hR) ?_
          refine aX_iload_n dX0_make_59 rfl ?_
          refine aX_aload_n dX0_make_60 rfl ?_
          refine aX_iload_n dX0_make_61 rfl ?_
          refine cVp (As := [.int (nI (0))]) (st := [.int (nI (0)), .ref 52]) (v := .int (jLs (jSh s r ch (0)) 6 - nI 10000 * (nI (jBk s (0)) - nI (jBk s (jChn s (0)))))) dX0_make_62 kX0_make_60 s49 aEok0 rfl rfl (Nat.le_of_ble_eq_true rfl) (c_driftOf hR hc3 (by omega) g2 g1 (by omega)) ?_
          refine nIast dX0_make_65 s52 (by first | omega | exact Nat.lt_of_le_of_lt (Nat.mod_le _ _) (by omega)) (by decide) ?_
          refine nInc (lv' := [(0, .ref 49), (1, .int (nI (0 + 1)))]) dX0_make_66 rfl rfl (by decide) rfl ?_
          refine aX_goto (tgt := 2) dX0_make_69 (by decide) ?_
          exact ih ((jS s).length - (0 + 1)) (by omega) (0 + 1) (by omega) rfl _ (fun j hj => by
            by_cases e : j = 0
            · subst e; exact ⟨by rw [aU_n (by omega)]; exact g1, fun p hp => by rw [aU_n (by omega)]; exact g2 p hp, by rw [aU_s]; rfl⟩
            · obtain ⟨a, b, c⟩ := hdn j (by omega)
              exact ⟨by rw [aU_n (by omega), g3 51 j (by omega) (by omega) (by omega) (by omega) (by omega)]; exact a, fun p hp => by rw [aU_n (by omega), g3 50 _ (by omega) (by omega) (by omega) (by omega) (by omega)]; exact b p hp, by rw [aU_n (by omega), g3 52 j (by omega) (by omega) (by omega) (by omega) (by omega)]; exact c⟩) (fun q j h1 h2 h3 h4 => by rw [aU_n (by omega), g3 q j h1 h2 h3 (by omega) (by omega)]; exact hke q j h1 h2 h3 h4)
        · exact absurd c2 (by omega)
      | succ k =>
        obtain ⟨q0, hq0, hb0⟩ := jQ (s := s) (k := k) (by omega)
        obtain ⟨q1, hq1, hb1⟩ := jQ (s := s) (k := k + 1) (by omega)
        have hcl6 := jCm_len h6 (k := k)
        have hle := jChn_le s k
        refine aX_aload_n dX0_make_13 rfl ?_
        refine aX_get dX0_make_14 lfX0_21 s49 (f49_0 hR) ?_
        refine aX_iload_n dX0_make_17 rfl ?_
        refine aX_iconst (v := nI 1) dX0_make_18 (by decide) ?_
        refine nSub dX0_make_19 (by omega) ?_
        rw [Nat.add_sub_cancel]
        refine cV (As := [.int (nI (k))]) (st := []) dX0_make_20 kX0_make_43 s16 aEok0 rfl rfl (Nat.le_of_ble_eq_true rfl) (c_findCommon hR hc1 hq0 hq1) (fun r h' hq9 => ?_)
        obtain ⟨rfl, I2, rfl, hcm, hk2⟩ := hq9
        refine ⟨rfl, ?_⟩
        have hkp2 : hK 40 52 I I2 := hK_trans hkp (hK_cm hk2)
        have hc2 := cRep_hK hkp2 (by decide) hc
        have hr2 := rRep_hK hkp2 (by decide) hr
        have hch2 : cgRep I2 s ch := fun x hx => ⟨(hk2 42 x (by omega) (by omega)).trans (hch1 x hx).1, (hch x hx).2⟩
        refine aX_aload_n dX0_make_23 rfl ?_
        refine aX_get dX0_make_24 lfX0_21 s49 (f49_0 hR) ?_
        refine aX_get (v := .int (nI ((jCm s k).length))) dX0_make_27 lfX0_47 s16 (congrArg Value.int (hcm.1)) ?_
        refine nIf_le (tgt := 50) dX0_make_30 (by decide) (by first | omega | exact Nat.lt_of_le_of_lt (Nat.mod_le _ _) (by omega)) (fun c3 => ?_) (fun c3 => ?_)
        · have hno : (jCm s k)[0]? = none := List.getElem?_eq_none (by omega)
          refine aX_aload_n dX0_make_50 rfl ?_
          refine aX_iload_n dX0_make_51 rfl ?_
          refine cV (As := [.int (nI (k + 1))]) (st := []) dX0_make_52 kX0_make_57 s49 aEok0 rfl rfl (Nat.le_of_ble_eq_true rfl) (c_begin hR (k := k + 1) (by omega)) (fun r h' hq9 => ?_)
          obtain ⟨rfl, I3, rfl, g1', g2', g3'⟩ := hq9
          refine ⟨rfl, ?_⟩
          have hcn : jChn s (k + 1) = k + 1 := jChn_n hno
          have g1 : I3 51 (k + 1) = nI (jChn s (k + 1)) := by rw [hcn]; exact g1'
          have g2 : ∀ p, p < 6 → I3 50 ((k + 1) * 6 + p) = jSh s r ch (k + 1) p := fun p hp => by rw [jSh_n hno]; exact g2' p hp
          have g3 : ∀ q j, ¬ (q = 16 ∧ j = 13) → q ≠ 27 → q ≠ 40 → ¬ (q = 51 ∧ j = k + 1) → ¬ (q = 50 ∧ (k + 1) * 6 ≤ j ∧ j < (k + 1) * 6 + 6) → I3 q j = I1 q j := fun q j h1 h2 h3 h4 h5 => (g3' q j h4 h5).trans (hk2 q j h1 h2)
          have hc3 := cRep_hK (a := 40) (b := 52) (fun q j h1 h2 h3 => (g3 q j h1 h2 (by omega) (by omega) (by omega)).trans (hkp q j h1 h2 h3)) (by decide) hc
          have hlk := jChn_le s (k + 1)
          refine aX_aload_n dX0_make_55 rfl ?_
          refine aX_get dX0_make_56 lfX0_18 s49 (f49_6 hR) ?_
          refine aX_iload_n dX0_make_59 rfl ?_
          refine aX_aload_n dX0_make_60 rfl ?_
          refine aX_iload_n dX0_make_61 rfl ?_
          refine cVp (As := [.int (nI (k + 1))]) (st := [.int (nI (k + 1)), .ref 52]) (v := .int (jLs (jSh s r ch (k + 1)) 6 - nI 10000 * (nI (jBk s (k + 1)) - nI (jBk s (jChn s (k + 1)))))) dX0_make_62 kX0_make_60 s49 aEok0 rfl rfl (Nat.le_of_ble_eq_true rfl) (c_driftOf hR hc3 (by omega) g2 g1 (by omega)) ?_
          refine nIast dX0_make_65 s52 (by first | omega | exact Nat.lt_of_le_of_lt (Nat.mod_le _ _) (by omega)) (by decide) ?_
          refine nInc (lv' := [(0, .ref 49), (1, .int (nI ((k + 1) + 1)))]) dX0_make_66 rfl rfl (by decide) rfl ?_
          refine aX_goto (tgt := 2) dX0_make_69 (by decide) ?_
          exact ih ((jS s).length - ((k + 1) + 1)) (by omega) ((k + 1) + 1) (by omega) rfl _ (fun j hj => by
            by_cases e : j = (k + 1)
            · subst e; exact ⟨by rw [aU_n (by omega)]; exact g1, fun p hp => by rw [aU_n (by omega)]; exact g2 p hp, by rw [aU_s]; rfl⟩
            · obtain ⟨a, b, c⟩ := hdn j (by omega)
              exact ⟨by rw [aU_n (by omega), g3 51 j (by omega) (by omega) (by omega) (by omega) (by omega)]; exact a, fun p hp => by rw [aU_n (by omega), g3 50 _ (by omega) (by omega) (by omega) (by omega) (by omega)]; exact b p hp, by rw [aU_n (by omega), g3 52 j (by omega) (by omega) (by omega) (by omega) (by omega)]; exact c⟩) (fun q j h1 h2 h3 h4 => by rw [aU_n (by omega), g3 q j h1 h2 h3 (by omega) (by omega)]; exact hke q j h1 h2 h3 h4)
        · obtain ⟨m, hm⟩ := jCm_at (s := s) (k := k) (i := 0) c3
          have hmm := jCm_mem hq0 hq1 hm
          refine aX_aload_n dX0_make_33 rfl ?_
          refine aX_iload_n dX0_make_34 rfl ?_
          refine aX_aload_n dX0_make_35 rfl ?_
          refine aX_get dX0_make_36 lfX0_21 s49 (f49_0 hR) ?_
          refine aX_get dX0_make_39 lfX0_50 s16 (f16_14 hR) ?_
          refine aX_iconst (v := nI 0) dX0_make_42 (by decide) ?_
          refine nIald (v := nI (m)) dX0_make_43 s27 (by first | omega | exact Nat.lt_of_le_of_lt (Nat.mod_le _ _) (by omega)) (by decide) (hcm.2 0 m hm) ?_
          refine cV (As := [.int (nI (k + 1)), .int (nI (m))]) (st := []) dX0_make_44 kX0_make_53 s49 aEok0 rfl rfl (Nat.le_of_ble_eq_true rfl) (c_goOn hR hc2 hr2 hch2 (by omega) hmm.1 (by rw [← hb0]; exact hmm.2.1) (by rw [← hb1]; exact hmm.2.2) (fun p hp => (hk2 50 _ (by omega) (by omega)).trans ((hdn k (by omega)).2.1 p hp)) ((hk2 51 _ (by omega) (by omega)).trans (hdn k (by omega)).1)) (fun r h' hq9 => ?_)
          obtain ⟨rfl, I3, rfl, g1', g2', g3'⟩ := hq9
          refine ⟨rfl, ?_⟩
          have g1 : I3 51 (k + 1) = nI (jChn s (k + 1)) := by rw [jChn_s hm]; exact g1'
          have g2 : ∀ p, p < 6 → I3 50 ((k + 1) * 6 + p) = jSh s r ch (k + 1) p := fun p hp => by rw [jSh_s hm]; exact g2' p hp
          have g3 : ∀ q j, ¬ (q = 16 ∧ j = 13) → q ≠ 27 → q ≠ 40 → ¬ (q = 51 ∧ j = k + 1) → ¬ (q = 50 ∧ (k + 1) * 6 ≤ j ∧ j < (k + 1) * 6 + 6) → I3 q j = I1 q j := fun q j h1 h2 h3 h4 h5 => (g3' q j h3 h4 h5).trans (hk2 q j h1 h2)
          have hc3 := cRep_hK (a := 40) (b := 52) (fun q j h1 h2 h3 => (g3 q j h1 h2 (by omega) (by omega) (by omega)).trans (hkp q j h1 h2 h3)) (by decide) hc
          have hlk : jChn s (k + 1) ≤ k + 1 := jChn_le s (k + 1)
          refine aX_goto (tgt := 55) dX0_make_47 (by decide) ?_
          refine aX_aload_n dX0_make_55 rfl ?_
          refine aX_get dX0_make_56 lfX0_18 s49 (f49_6 hR) ?_
          refine aX_iload_n dX0_make_59 rfl ?_
          refine aX_aload_n dX0_make_60 rfl ?_
          refine aX_iload_n dX0_make_61 rfl ?_
          refine cVp (As := [.int (nI (k + 1))]) (st := [.int (nI (k + 1)), .ref 52]) (v := .int (jLs (jSh s r ch (k + 1)) 6 - nI 10000 * (nI (jBk s (k + 1)) - nI (jBk s (jChn s (k + 1)))))) dX0_make_62 kX0_make_60 s49 aEok0 rfl rfl (Nat.le_of_ble_eq_true rfl) (c_driftOf hR hc3 (by omega) g2 g1 (by omega)) ?_
          refine nIast dX0_make_65 s52 (by first | omega | exact Nat.lt_of_le_of_lt (Nat.mod_le _ _) (by omega)) (by decide) ?_
          refine nInc (lv' := [(0, .ref 49), (1, .int (nI ((k + 1) + 1)))]) dX0_make_66 rfl rfl (by decide) rfl ?_
          refine aX_goto (tgt := 2) dX0_make_69 (by decide) ?_
          exact ih ((jS s).length - ((k + 1) + 1)) (by omega) ((k + 1) + 1) (by omega) rfl _ (fun j hj => by
            by_cases e : j = (k + 1)
            · subst e; exact ⟨by rw [aU_n (by omega)]; exact g1, fun p hp => by rw [aU_n (by omega)]; exact g2 p hp, by rw [aU_s]; rfl⟩
            · obtain ⟨a, b, c⟩ := hdn j (by omega)
              exact ⟨by rw [aU_n (by omega), g3 51 j (by omega) (by omega) (by omega) (by omega) (by omega)]; exact a, fun p hp => by rw [aU_n (by omega), g3 50 _ (by omega) (by omega) (by omega) (by omega) (by omega)]; exact b p hp, by rw [aU_n (by omega), g3 52 j (by omega) (by omega) (by omega) (by omega) (by omega)]; exact c⟩) (fun q j h1 h2 h3 h4 => by rw [aU_n (by omega), g3 q j h1 h2 h3 (by omega) (by omega)]; exact hke q j h1 h2 h3 h4)
set_option maxHeartbeats 1000000 in
theorem c_chains {I : Nat → Nat → Int32} {L : Nat → Nat → Int64} {R : Nat → Nat → Option Nat} (hR : aRf R) {s : jN} (hc : cRep I s) {r : jR} (hr : rRep I r) {ch : Nat → Nat} (hch : cgRep I s ch) : aM mX0_make [.ref 49] (sh0, I, L, R) (fun ans h' => ans = none ∧ ∃ I', h' = (sh0, I', L, R) ∧ chRep I' s r ch ∧ cgRep I' s ch ∧ (∀ q j, ¬ (q = 16 ∧ j = 13) → q ≠ 27 → q ≠ 40 → (q < 50 ∨ 52 < q) → I' q j = I q j)) := by
  refine aM_of plX0_make (Nat.le_of_ble_eq_true rfl) ?_
  refine aX_iconst (v := nI 0) dX0_make_0 (by decide) ?_
  refine aX_istore_n (lv' := [(0, .ref 49), (1, .int (nI (0)))]) dX0_make_1 (by decide) rfl ?_
  exact l_chains hR hc hr hch _ 0 (by omega) rfl I (fun j hj => by omega) (fun _ _ _ _ _ _ => rfl)
set_option maxHeartbeats 1000000 in
theorem c_isPump {I : Nat → Nat → Int32} {L : Nat → Nat → Int64} {R : Nat → Nat → Option Nat} (hR : aRf R) {s : jN} (hc : cRep I s) {r : jR} {ch : Nat → Nat} (hd : chRep I s r ch) {a b : Nat} (ha : a < (jS s).length) (hb : b < (jS s).length) : aMp mX0_isPump [.ref 49, .int (nI a), .int (nI b)] (sh0, I, L, R) (.int (bI (jPm s r ch a b))) := by
  obtain ⟨hs, ho, h6, hS, hV⟩ := id hc
  have hn := ho.1
  have hSl := jS_len s
  obtain ⟨q, hq, hqb⟩ := jQ ha
  obtain ⟨q1, hq1, hqb1⟩ := jQ hb
  have hla := jChn_le s a
  have hlb := jChn_le s b
  have hoa := (ho.2 _ (jBase_in (jS_in hq).2.2).2.1).1
  have hob := (ho.2 _ (jBase_in (jS_in hq1).2.2).2.1).1
  have eka : s.2.1 (jBase s q.1) = jBk s a := by unfold jBk; rw [hqb]
  have ekb : s.2.1 (jBase s q1.1) = jBk s b := by unfold jBk; rw [hqb1]
  rw [eka] at hoa
  rw [ekb] at hob
  refine aM_of plX0_isPump (Nat.le_of_ble_eq_true rfl) ?_
  refine aX_aload_n dX0_isPump_0 rfl ?_
  refine aX_get dX0_isPump_1 lfX0_15 s49 (f49_5 hR) ?_
  refine aX_iload_n dX0_isPump_4 rfl ?_
  refine nIald (v := nI (jChn s a)) dX0_isPump_5 s51 (by first | omega | exact Nat.lt_of_le_of_lt (Nat.mod_le _ _) (by omega)) (by decide) ((hd a ha).1) ?_
  refine aX_aload_n dX0_isPump_6 rfl ?_
  refine aX_get dX0_isPump_7 lfX0_15 s49 (f49_5 hR) ?_
  refine aX_iload_n dX0_isPump_10 rfl ?_
  refine nIald (v := nI (jChn s b)) dX0_isPump_11 s51 (by first | omega | exact Nat.lt_of_le_of_lt (Nat.mod_le _ _) (by omega)) (by decide) ((hd b hb).1) ?_
  refine nNe (tgt := 53) dX0_isPump_12 (by decide) (by first | omega | exact Nat.lt_of_le_of_lt (Nat.mod_le _ _) (by omega)) (by first | omega | exact Nat.lt_of_le_of_lt (Nat.mod_le _ _) (by omega)) (fun c1 => ?_) (fun c1 => ?_)
  · refine aX_iconst (v := nI 0) dX0_isPump_53 (by decide) ?_
    exact rZ dX0_isPump_54 rfl (Or.inl rfl) (⟨rfl, by rw [show jPm s r ch a b = false by unfold jPm; simp_all]; rfl⟩)
  · refine aX_aload_n dX0_isPump_15 rfl ?_
    refine aX_get dX0_isPump_16 lfX0_21 s49 (f49_0 hR) ?_
    refine aX_iload_n dX0_isPump_19 rfl ?_
    refine cVp (As := [.int (nI (a))]) (st := []) (v := .int (nI (jBk s a))) dX0_isPump_20 kX0_isPump_99 s16 aEok0 rfl rfl (Nat.le_of_ble_eq_true rfl) (by rw [← eka]; exact c_baseKey hR hc hq) ?_
    refine aX_aload_n dX0_isPump_23 rfl ?_
    refine aX_get dX0_isPump_24 lfX0_21 s49 (f49_0 hR) ?_
    refine aX_iload_n dX0_isPump_27 rfl ?_
    refine cVp (As := [.int (nI (b))]) (st := [.int (nI (jBk s a))]) (v := .int (nI (jBk s b))) dX0_isPump_28 kX0_isPump_99 s16 aEok0 rfl rfl (Nat.le_of_ble_eq_true rfl) (by rw [← ekb]; exact c_baseKey hR hc hq1) ?_
    refine nNe (tgt := 53) dX0_isPump_31 (by decide) (by first | omega | exact Nat.lt_of_le_of_lt (Nat.mod_le _ _) (by omega)) (by first | omega | exact Nat.lt_of_le_of_lt (Nat.mod_le _ _) (by omega)) (fun c2 => ?_) (fun c2 => ?_)
    · refine aX_iconst (v := nI 0) dX0_isPump_53 (by decide) ?_
      exact rZ dX0_isPump_54 rfl (Or.inl rfl) (⟨rfl, by rw [show jPm s r ch a b = false by unfold jPm; simp_all]; rfl⟩)
    · refine aX_aload_n dX0_isPump_34 rfl ?_
      refine aX_get dX0_isPump_35 lfX0_18 s49 (f49_6 hR) ?_
      refine aX_iload_n dX0_isPump_38 rfl ?_
      refine nIald (v := jDr s r ch a) dX0_isPump_39 s52 (by first | omega | exact Nat.lt_of_le_of_lt (Nat.mod_le _ _) (by omega)) (by decide) ((hd a ha).2.2) ?_
      refine aX_aload_n dX0_isPump_40 rfl ?_
      refine aX_get dX0_isPump_41 lfX0_18 s49 (f49_6 hR) ?_
      refine aX_iload_n dX0_isPump_44 rfl ?_
      refine nIald (v := jDr s r ch b) dX0_isPump_45 s52 (by first | omega | exact Nat.lt_of_le_of_lt (Nat.mod_le _ _) (by omega)) (by decide) ((hd b hb).2.2) ?_
      refine aX_icmp_eq (tgt := 53) dX0_isPump_46 (by decide) (fun c3 => ?_) (fun c3 => ?_)
      · refine aX_iconst (v := nI 0) dX0_isPump_53 (by decide) ?_
        exact rZ dX0_isPump_54 rfl (Or.inl rfl) (⟨rfl, by rw [show jPm s r ch a b = false by unfold jPm; simp_all]; rfl⟩)
      · refine aX_iconst (v := nI 1) dX0_isPump_49 (by decide) ?_
        refine aX_goto (tgt := 54) dX0_isPump_50 (by decide) ?_
        exact rZ dX0_isPump_54 rfl (Or.inr rfl) (⟨rfl, by rw [show jPm s r ch a b = true by unfold jPm; simp_all]; rfl⟩)
theorem jPo_pre (s : jN) (r : jR) (ch : Nat → Nat) : ∀ {a b : Nat}, a ≤ b → ∃ t, jPo s r ch b = jPo s r ch a ++ t
  | a, 0, h => ⟨[], by rw [show a = 0 by omega]; rfl⟩
  | a, b + 1, h => by
    rcases Nat.lt_or_ge a (b + 1) with c | c
    · obtain ⟨t, ht⟩ := jPo_pre s r ch (show a ≤ b by omega)
      exact ⟨t ++ jPi s r ch b b, by show jPo s r ch b ++ _ = _; rw [ht, List.append_assoc]⟩
    · exact ⟨[], by rw [show a = b + 1 by omega, List.append_nil]⟩
theorem jPi_pre (s : jN) (r : jR) (ch : Nat → Nat) (l : Nat) : ∀ {a b : Nat}, a ≤ b → ∃ t, jPi s r ch l b = jPi s r ch l a ++ t
  | a, 0, h => ⟨[], by rw [show a = 0 by omega]; rfl⟩
  | a, b + 1, h => by
    rcases Nat.lt_or_ge a (b + 1) with c | c
    · obtain ⟨t, ht⟩ := jPi_pre s r ch l (show a ≤ b by omega)
      show ∃ t', (if jPm s r ch b l then _ else _) = _
      split
      · exact ⟨t ++ [(b, l)], by rw [ht, List.append_assoc]⟩
      · exact ⟨t, ht⟩
    · exact ⟨[], by rw [show a = b + 1 by omega, List.append_nil]⟩
theorem jPo_at {s : jN} {r : jR} {ch : Nat → Nat} {n l k x : Nat} (hl : l < n) (hk : k < l) (hp : jPm s r ch k l = true) (hx : x = (jPo s r ch l ++ jPi s r ch l k).length) : (jPo s r ch n)[x]? = some (k, l) := by
  obtain ⟨t, ht⟩ := jPo_pre s r ch (show l + 1 ≤ n from hl)
  obtain ⟨u, hu⟩ := jPi_pre s r ch l (show k + 1 ≤ l from hk)
  have e : jPi s r ch l (k + 1) = jPi s r ch l k ++ [(k, l)] := by
    show (if jPm s r ch k l then _ else _) = _
    rw [if_pos hp]
  rw [ht, show jPo s r ch (l + 1) = jPo s r ch l ++ jPi s r ch l l from rfl, hu, e, hx]
  rw [show jPo s r ch l ++ (jPi s r ch l k ++ [(k, l)] ++ u) ++ t = (jPo s r ch l ++ jPi s r ch l k) ++ ((k, l) :: (u ++ t)) by simp]
  rw [List.getElem?_append_right (Nat.le_refl _), Nat.sub_self]
  rfl
set_option maxHeartbeats 1000000 in
theorem l_pump1 {I : Nat → Nat → Int32} {L : Nat → Nat → Int64} {R : Nat → Nat → Option Nat} (hR : aRf R) {s : jN} (hc : cRep I s) {r : jR} {ch : Nat → Nat} (hd : chRep I s r ch) {x : Nat} (hx : x < 2 ^ 31) {l : Nat} (hl : l < (jS s).length) (kk : ∀ se : Nat, se = (jPo s r ch l ++ jPi s r ch l l).length → se ≤ x → aX mX0_findPump aE0 (sh0, I, L, R) 61 [(0, .ref 49), (1, .int (nI x)), (2, .int (nI se)), (3, .int (nI l)), (4, .int (nI l))] [] 0 0 (fun ans h' => (∃ q, (jPo s r ch (jS s).length)[x]? = some q ∧ ans = some (.int (nI 1)) ∧ h' = (sh0, aU (aU I 49 7 (nI q.1)) 49 8 (nI q.2), L, R)) ∨ ((jPo s r ch (jS s).length)[x]? = none ∧ ans = some (.int (nI 0)) ∧ h' = (sh0, I, L, R)))) : ∀ (k9 k : Nat), k ≤ l → l - k = k9 → ∀ (se : Nat), se = (jPo s r ch l ++ jPi s r ch l k).length → se ≤ x → aX mX0_findPump aE0 (sh0, I, L, R) 18 [(0, .ref 49), (1, .int (nI (x))), (2, .int (nI (se))), (3, .int (nI (l))), (4, .int (nI (k)))] [] 0 0 (fun ans h' => (∃ q, (jPo s r ch (jS s).length)[x]? = some q ∧ ans = some (.int (nI 1)) ∧ h' = (sh0, aU (aU I 49 7 (nI q.1)) 49 8 (nI q.2), L, R)) ∨ ((jPo s r ch (jS s).length)[x]? = none ∧ ans = some (.int (nI 0)) ∧ h' = (sh0, I, L, R))) := by
  intro k9
  induction k9 using Nat.strongRecOn with
  | _ k9 ih =>
    intro k hi hk9 se  hse hsx
    obtain ⟨hs, ho, h6, hS, hV⟩ := id hc
    have hn := ho.1
    have hSl := jS_len s
    refine aX_iload dX0_findPump_18 rfl ?_
    refine aX_iload_n dX0_findPump_20 rfl ?_
    refine nGe (tgt := 61) dX0_findPump_21 (by decide) (by first | omega | exact Nat.lt_of_le_of_lt (Nat.mod_le _ _) (by omega)) (by first | omega | exact Nat.lt_of_le_of_lt (Nat.mod_le _ _) (by omega)) (fun c1 => ?_) (fun c1 => ?_)
    · obtain rfl : k = l := by omega
      exact kk se hse hsx
    · refine aX_aload_n dX0_findPump_24 rfl ?_
      refine aX_iload dX0_findPump_25 rfl ?_
      refine aX_iload_n dX0_findPump_27 rfl ?_
      refine cVp (As := [.int (nI (k)), .int (nI (l))]) (st := []) (v := .int (bI (jPm s r ch k l))) dX0_findPump_28 kX0_findPump_102 s49 aEok0 rfl rfl (Nat.le_of_ble_eq_true rfl) (c_isPump hR hc hd (by omega) hl) ?_
      refine bEq (tgt := 55) dX0_findPump_31 (by decide) (fun c2 => ?_) (fun c2 => ?_)
      · refine nInc (lv' := [(0, .ref 49), (1, .int (nI (x))), (2, .int (nI (se))), (3, .int (nI (l))), (4, .int (nI (k + 1)))]) dX0_findPump_55 rfl rfl (by decide) rfl ?_
        refine aX_goto (tgt := 18) dX0_findPump_58 (by decide) ?_
        have e9 : jPi s r ch l (k + 1) = jPi s r ch l k := by show (if jPm s r ch k l then _ else _) = _; rw [show jPm s r ch k l = false by assumption]; rfl
        exact ih (l - (k + 1)) (by omega) (k + 1) (by omega) rfl _ (by rw [e9, hse]) (by omega)
      · refine aX_iload_n dX0_findPump_34 rfl ?_
        refine aX_iload_n dX0_findPump_35 rfl ?_
        refine nNe (tgt := 52) dX0_findPump_36 (by decide) (by first | omega | exact Nat.lt_of_le_of_lt (Nat.mod_le _ _) (by omega)) (by first | omega | exact Nat.lt_of_le_of_lt (Nat.mod_le _ _) (by omega)) (fun c3 => ?_) (fun c3 => ?_)
        · refine nInc (lv' := [(0, .ref 49), (1, .int (nI (x))), (2, .int (nI (se + 1))), (3, .int (nI (l))), (4, .int (nI (k)))]) dX0_findPump_52 rfl rfl (by decide) rfl ?_
          refine nInc (lv' := [(0, .ref 49), (1, .int (nI (x))), (2, .int (nI (se + 1))), (3, .int (nI (l))), (4, .int (nI (k + 1)))]) dX0_findPump_55 rfl rfl (by decide) rfl ?_
          refine aX_goto (tgt := 18) dX0_findPump_58 (by decide) ?_
          have e9 : jPi s r ch l (k + 1) = jPi s r ch l k ++ [(k, l)] := by show (if jPm s r ch k l then _ else _) = _; rw [if_pos (by assumption)]
          exact ih (l - (k + 1)) (by omega) (k + 1) (by omega) rfl _ (by rw [e9, hse, ← List.append_assoc, List.length_append (bs := [(k, l)])]; rfl) (by omega)
        · refine aX_aload_n dX0_findPump_39 rfl ?_
          refine aX_iload dX0_findPump_40 rfl ?_
          refine pI dX0_findPump_42 lfX0_106 (fun _ _ _ hq => by cases hq; exact Or.inl rfl) s49 rfl ?_
          refine aX_aload_n dX0_findPump_45 rfl ?_
          refine aX_iload_n dX0_findPump_46 rfl ?_
          refine pI dX0_findPump_47 lfX0_109 (fun _ _ _ hq => by cases hq; exact Or.inl rfl) s49 rfl ?_
          refine aX_iconst (v := nI 1) dX0_findPump_50 (by decide) ?_
          exact rZ dX0_findPump_51 rfl (Or.inr rfl) (Or.inl ⟨(k, l), jPo_at hl (by omega) (by assumption) (by omega), rfl, rfl⟩)
set_option maxHeartbeats 1000000 in
theorem l_pump {I : Nat → Nat → Int32} {L : Nat → Nat → Int64} {R : Nat → Nat → Option Nat} (hR : aRf R) {s : jN} (hc : cRep I s) {r : jR} {ch : Nat → Nat} (hd : chRep I s r ch) {x : Nat} (hx : x < 2 ^ 31) : ∀ (k9 l : Nat), l ≤ (jS s).length → ((jS s).length) - l = k9 → ∀ (se : Nat), se = (jPo s r ch l).length → se ≤ x → aX mX0_findPump aE0 (sh0, I, L, R) 4 [(0, .ref 49), (1, .int (nI (x))), (2, .int (nI (se))), (3, .int (nI (l)))] [] 0 0 (fun ans h' => (∃ q, (jPo s r ch (jS s).length)[x]? = some q ∧ ans = some (.int (nI 1)) ∧ h' = (sh0, aU (aU I 49 7 (nI q.1)) 49 8 (nI q.2), L, R)) ∨ ((jPo s r ch (jS s).length)[x]? = none ∧ ans = some (.int (nI 0)) ∧ h' = (sh0, I, L, R))) := by
  intro k9
  induction k9 using Nat.strongRecOn with
  | _ k9 ih =>
    intro l hi hk9 se  hse hsx
    obtain ⟨hs, ho, h6, hS, hV⟩ := id hc
    have hn := ho.1
    have hSl := jS_len s
    refine aX_iload_n dX0_findPump_4 rfl ?_
    refine aX_aload_n dX0_findPump_5 rfl ?_
    refine aX_get dX0_findPump_6 lfX0_21 s49 (f49_0 hR) ?_
    refine aX_get (v := .int (nI ((jS s).length))) dX0_findPump_9 lfX0_37 s16 (congrArg Value.int (hS.1)) ?_
    refine nGe (tgt := 67) dX0_findPump_12 (by decide) (by first | omega | exact Nat.lt_of_le_of_lt (Nat.mod_le _ _) (by omega)) (by first | omega | exact Nat.lt_of_le_of_lt (Nat.mod_le _ _) (by omega)) (fun c1 => ?_) (fun c1 => ?_)
    · refine aX_iconst (v := nI 0) dX0_findPump_67 (by decide) ?_
      exact rZ dX0_findPump_68 rfl (Or.inl rfl) (Or.inr ⟨by have e : l = (jS s).length := (by omega); rw [← e]; exact List.getElem?_eq_none (by omega), rfl, rfl⟩)
    · refine aX_iconst (v := nI 0) dX0_findPump_15 (by decide) ?_
      refine aX_istore (lv' := [(0, .ref 49), (1, .int (nI (x))), (2, .int (nI (se))), (3, .int (nI (l))), (4, .int (nI (0)))]) dX0_findPump_16 (by decide) rfl ?_
      refine l_pump1 hR hc hd hx (l := l) (by omega) (fun se hse hsx => ?_) _ 0 (by omega) rfl se (by rw [hse]; show _ = (jPo s r ch l ++ []).length; rw [List.append_nil]) hsx
      refine nInc (lv' := [(0, .ref 49), (1, .int (nI (x))), (2, .int (nI (se))), (3, .int (nI (l + 1))), (4, .int (nI (l)))]) dX0_findPump_61 rfl rfl (by decide) rfl ?_
      refine aX_goto (tgt := 4) dX0_findPump_64 (by decide) ?_
      refine aX_lv (lv' := [(0, .ref 49), (1, .int (nI (x))), (2, .int (nI (se))), (3, .int (nI (l + 1)))]) [0, 1, 2, 3] rfl ?_
      exact ih ((jS s).length - (l + 1)) (by omega) (l + 1) (by omega) rfl se hse hsx
set_option maxHeartbeats 1000000 in
theorem c_findPump {I : Nat → Nat → Int32} {L : Nat → Nat → Int64} {R : Nat → Nat → Option Nat} (hR : aRf R) {s : jN} (hc : cRep I s) {r : jR} {ch : Nat → Nat} (hd : chRep I s r ch) {x : Nat} (hx : x < 2 ^ 31) : aM mX0_findPump [.ref 49, .int (nI x)] (sh0, I, L, R) (fun ans h' => (∃ q, (jPo s r ch (jS s).length)[x]? = some q ∧ ans = some (.int (nI 1)) ∧ h' = (sh0, aU (aU I 49 7 (nI q.1)) 49 8 (nI q.2), L, R)) ∨ ((jPo s r ch (jS s).length)[x]? = none ∧ ans = some (.int (nI 0)) ∧ h' = (sh0, I, L, R))) := by
  refine aM_of plX0_findPump (Nat.le_of_ble_eq_true rfl) ?_
  refine aX_iconst (v := nI 0) dX0_findPump_0 (by decide) ?_
  refine aX_istore_n (lv' := [(0, .ref 49), (1, .int (nI (x))), (2, .int (nI (0)))]) dX0_findPump_1 (by decide) rfl ?_
  refine aX_iconst (v := nI 0) dX0_findPump_2 (by decide) ?_
  refine aX_istore_n (lv' := [(0, .ref 49), (1, .int (nI (x))), (2, .int (nI (0))), (3, .int (nI (0)))]) dX0_findPump_3 (by decide) rfl ?_
  exact l_pump hR hc hd hx _ 0 (by omega) rfl 0 rfl (by omega)
def jPv (s : jN) (r : jR) (ch : Nat → Nat) (a b w : Nat) : Int32 := if w = 0 then nI a else if w = 1 then nI b else jDr s r ch b - jDr s r ch a
set_option maxHeartbeats 1000000 in
theorem c_ofPump {I : Nat → Nat → Int32} {L : Nat → Nat → Int64} {R : Nat → Nat → Option Nat} (hR : aRf R) {s : jN} {r : jR} {ch : Nat → Nat} (hd : chRep I s r ch) {a b w : Nat} (ha : a < (jS s).length) (hb : b < (jS s).length) (hw : w < 3) (h7 : I 49 7 = nI a) (h8 : I 49 8 = nI b) : aMp mX0_ofPump [.ref 49, .int (nI w)] (sh0, I, L, R) (.int (jPv s r ch a b w)) := by
  have hSl := jS_len s
  refine aM_of plX0_ofPump (Nat.le_of_ble_eq_true rfl) ?_
  refine aX_iload_n dX0_ofPump_0 rfl ?_
  refine nIf_ne (tgt := 9) dX0_ofPump_1 (by decide) (by first | omega | exact Nat.lt_of_le_of_lt (Nat.mod_le _ _) (by omega)) (fun c1 => ?_) (fun c1 => ?_)
  · refine aX_iload_n dX0_ofPump_9 rfl ?_
    refine aX_iconst (v := nI 1) dX0_ofPump_10 (by decide) ?_
    refine nNe (tgt := 21) dX0_ofPump_11 (by decide) (by first | omega | exact Nat.lt_of_le_of_lt (Nat.mod_le _ _) (by omega)) (by first | omega | exact Nat.lt_of_le_of_lt (Nat.mod_le _ _) (by omega)) (fun c2 => ?_) (fun c2 => ?_)
    · refine aX_aload_n dX0_ofPump_21 rfl ?_
      refine aX_get dX0_ofPump_22 lfX0_18 s49 (f49_6 hR) ?_
      refine aX_aload_n dX0_ofPump_25 rfl ?_
      refine aX_get (v := .int (nI (b))) dX0_ofPump_26 lfX0_109 s49 (congrArg Value.int (h8)) ?_
      refine nIald (v := jDr s r ch b) dX0_ofPump_29 s52 (by first | omega | exact Nat.lt_of_le_of_lt (Nat.mod_le _ _) (by omega)) (by decide) ((hd b hb).2.2) ?_
      refine aX_aload_n dX0_ofPump_30 rfl ?_
      refine aX_get dX0_ofPump_31 lfX0_18 s49 (f49_6 hR) ?_
      refine aX_aload_n dX0_ofPump_34 rfl ?_
      refine aX_get (v := .int (nI (a))) dX0_ofPump_35 lfX0_106 s49 (congrArg Value.int (h7)) ?_
      refine nIald (v := jDr s r ch a) dX0_ofPump_38 s52 (by first | omega | exact Nat.lt_of_le_of_lt (Nat.mod_le _ _) (by omega)) (by decide) ((hd a ha).2.2) ?_
      refine aX_isub dX0_ofPump_39 ?_
      exact rI dX0_ofPump_40 rfl (⟨rfl, by unfold jPv; first | rw [if_pos (by omega)] | rw [if_neg (by omega), if_pos (by omega)] | rw [if_neg (by omega), if_neg (by omega)]⟩)
    · refine aX_aload_n dX0_ofPump_14 rfl ?_
      refine aX_get (v := .int (nI (b))) dX0_ofPump_15 lfX0_109 s49 (congrArg Value.int (h8)) ?_
      refine aX_goto (tgt := 40) dX0_ofPump_18 (by decide) ?_
      exact rI dX0_ofPump_40 rfl (⟨rfl, by unfold jPv; first | rw [if_pos (by omega)] | rw [if_neg (by omega), if_pos (by omega)] | rw [if_neg (by omega), if_neg (by omega)]⟩)
  · refine aX_aload_n dX0_ofPump_4 rfl ?_
    refine aX_get (v := .int (nI (a))) dX0_ofPump_5 lfX0_106 s49 (congrArg Value.int (h7)) ?_
    exact rI dX0_ofPump_8 rfl (⟨rfl, by unfold jPv; first | rw [if_pos (by omega)] | rw [if_neg (by omega), if_pos (by omega)] | rw [if_neg (by omega), if_neg (by omega)]⟩)
