set_option maxHeartbeats 1000000 in
theorem c_min {h : aH} {a b : Nat} (ha : a < 2 ^ 31) (hb : b < 2 ^ 31) : aMp mJ9_min_7cf53 [.int (nI a), .int (nI b)] h (.int (nI (min a b))) := by
  refine aM_of plJ9_min_7cf53 (Nat.le_of_ble_eq_true rfl) ?_
  refine aX_iload_n dJ9_min_7cf53_0 rfl ?_
  refine aX_iload_n dJ9_min_7cf53_1 rfl ?_
  refine nGt (tgt := 9) dJ9_min_7cf53_2 (by decide) (by omega) (by omega) (fun c1 => ?_) (fun c1 => ?_)
  · refine aX_iload_n dJ9_min_7cf53_9 rfl ?_
    exact rI dJ9_min_7cf53_10 rfl (⟨rfl, by rw [show min a b = b by omega]⟩)
  · refine aX_iload_n dJ9_min_7cf53_5 rfl ?_
    refine aX_goto (tgt := 10) dJ9_min_7cf53_6 (by decide) ?_
    exact rI dJ9_min_7cf53_10 rfl (⟨rfl, by rw [show min a b = a by omega]⟩)

set_option maxHeartbeats 1000000 in
theorem c_max {h : aH} {a b : Nat} (ha : a < 2 ^ 31) (hb : b < 2 ^ 31) : aMp mJ9_max_7cf53 [.int (nI a), .int (nI b)] h (.int (nI (max a b))) := by
  refine aM_of plJ9_max_7cf53 (Nat.le_of_ble_eq_true rfl) ?_
  refine aX_iload_n dJ9_max_7cf53_0 rfl ?_
  refine aX_iload_n dJ9_max_7cf53_1 rfl ?_
  refine nLt (tgt := 9) dJ9_max_7cf53_2 (by decide) (by omega) (by omega) (fun c1 => ?_) (fun c1 => ?_)
  · refine aX_iload_n dJ9_max_7cf53_9 rfl ?_
    exact rI dJ9_max_7cf53_10 rfl (⟨rfl, by rw [show max a b = b by omega]⟩)
  · refine aX_iload_n dJ9_max_7cf53_5 rfl ?_
    refine aX_goto (tgt := 10) dJ9_max_7cf53_6 (by decide) ?_
    exact rI dJ9_max_7cf53_10 rfl (⟨rfl, by rw [show max a b = a by omega]⟩)

set_option maxHeartbeats 1000000 in
theorem c_isAt {I : Nat → Nat → Int32} {L : Nat → Nat → Int64} {R : Nat → Nat → Option Nat} (hR : aRf R) {s : jN} {i t : Nat} (hs : nRep I s) (ho : jOk s) (hi : i < s.1) (ht : t < 2 ^ 31) : aMp mX5_isAt [.ref 16, .int (nI t), .int (nI i)] (sh0, I, L, R) (.int (bI (jOn s i t))) := by
  have hb := ho.2 i hi
  have hn := ho.1
  refine aM_of plX5_isAt (Nat.le_of_ble_eq_true rfl) ?_
  refine aX_aload_n dX5_isAt_0 rfl ?_
  refine aX_get dX5_isAt_1 lfX5_15 s16 (f16_2 hR) ?_
  refine aX_iload_n dX5_isAt_4 rfl ?_
  refine nIald (v := nI (s.2.2.1 i)) dX5_isAt_5 s18 (by omega) (by decide) ((hs.2 i (by omega)).2.1) ?_
  refine aX_iload_n dX5_isAt_6 rfl ?_
  refine nGt (tgt := 24) dX5_isAt_7 (by decide) (by omega) (by omega) (fun c1 => ?_) (fun c1 => ?_)
  · refine aX_iconst (v := nI 0) dX5_isAt_24 (by decide) ?_
    exact rZ dX5_isAt_25 rfl (Or.inl rfl) (⟨rfl, by first | (rw [on_f1 (s := s) (i := i) (t := t) (by omega)]; rfl) | (rw [on_f2 (s := s) (i := i) (t := t) (by omega)]; rfl)⟩)
  · refine aX_iload_n dX5_isAt_10 rfl ?_
    refine aX_aload_n dX5_isAt_11 rfl ?_
    refine aX_get dX5_isAt_12 lfX5_18 s16 (f16_3 hR) ?_
    refine aX_iload_n dX5_isAt_15 rfl ?_
    refine nIald (v := nI (s.2.2.2.1 i)) dX5_isAt_16 s19 (by omega) (by decide) ((hs.2 i (by omega)).2.2.1) ?_
    refine nGe (tgt := 24) dX5_isAt_17 (by decide) (by omega) (by omega) (fun c2 => ?_) (fun c2 => ?_)
    · refine aX_iconst (v := nI 0) dX5_isAt_24 (by decide) ?_
      exact rZ dX5_isAt_25 rfl (Or.inl rfl) (⟨rfl, by first | (rw [on_f1 (s := s) (i := i) (t := t) (by omega)]; rfl) | (rw [on_f2 (s := s) (i := i) (t := t) (by omega)]; rfl)⟩)
    · refine aX_iconst (v := nI 1) dX5_isAt_20 (by decide) ?_
      refine aX_goto (tgt := 25) dX5_isAt_21 (by decide) ?_
      exact rZ dX5_isAt_25 rfl (Or.inr rfl) (⟨rfl, by rw [on_t (s := s) (i := i) (t := t) (by omega) (by omega)]; rfl⟩)

set_option maxHeartbeats 1000000 in
theorem c_hasNote {I : Nat → Nat → Int32} {L : Nat → Nat → Int64} {R : Nat → Nat → Option Nat} (hR : aRf R) {s : jN} {i : Nat} (hs : nRep I s) (ho : jOk s) (hi : i < 2 ^ 31) : aMp mX5_hasNote [.ref 16, .int (nI i)] (sh0, I, L, R) (.int (bI (decide (i < s.1)))) := by
  have hn := ho.1
  refine aM_of plX5_hasNote (Nat.le_of_ble_eq_true rfl) ?_
  refine aX_iload_n dX5_hasNote_0 rfl ?_
  refine aX_if_lt (tgt := 16) dX5_hasNote_1 (by decide) (fun c => absurd c (nI_pos hi)) (fun c => ?_)
  refine aX_iload_n dX5_hasNote_4 rfl ?_
  refine aX_aload_n dX5_hasNote_5 rfl ?_
  refine aX_get (v := .int (nI (s.1))) dX5_hasNote_6 lfX5_46 s16 (congrArg Value.int (hs.1)) ?_
  refine nGe (tgt := 16) dX5_hasNote_9 (by decide) (by omega) (by omega) (fun c1 => ?_) (fun c1 => ?_)
  · refine aX_iconst (v := nI 0) dX5_hasNote_16 (by decide) ?_
    exact rZ dX5_hasNote_17 rfl (Or.inl rfl) (⟨rfl, by rw [show decide (i < s.1) = false by simp; omega]; rfl⟩)
  · refine aX_iconst (v := nI 1) dX5_hasNote_12 (by decide) ?_
    refine aX_goto (tgt := 17) dX5_hasNote_13 (by decide) ?_
    exact rZ dX5_hasNote_17 rfl (Or.inr rfl) (⟨rfl, by rw [show decide (i < s.1) = true by simp; omega]; rfl⟩)

set_option maxHeartbeats 1000000 in
theorem l_soundingAt {I : Nat → Nat → Int32} {L : Nat → Nat → Int64} {R : Nat → Nat → Option Nat} (hR : aRf R) {s : jN} {t : Nat} (hs : nRep I s) (ho : jOk s) (ht : t < 2 ^ 31) : ∀ (k i : Nat), i ≤ s.1 → s.1 - i = k → ∀ c : Nat, c = jCnt (fun i => jOn s i t) i → aX mX5_soundingAt aE0 (sh0, I, L, R) 4 [(0, .ref 16), (1, .int (nI t)), (2, .int (nI c)), (3, .int (nI i))] [] 0 0 (fun r h' => h' = (sh0, I, L, R) ∧ r = some (.int (nI (jSnd s t)))) := by
  intro k
  induction k using Nat.strongRecOn with
  | _ k ih =>
    intro i hi hk c hc
    have hn := ho.1
    have hcl := jCnt_le (fun i => jOn s i t) i
    refine aX_iload_n dX5_soundingAt_4 rfl ?_
    refine aX_aload_n dX5_soundingAt_5 rfl ?_
    refine aX_get (v := .int (nI (s.1))) dX5_soundingAt_6 lfX5_46 s16 (congrArg Value.int (hs.1)) ?_
    refine nGe (tgt := 30) dX5_soundingAt_9 (by decide) (by omega) (by omega) (fun c1 => ?_) (fun c1 => ?_)
    · refine aX_iload_n dX5_soundingAt_30 rfl ?_
      exact rI dX5_soundingAt_31 rfl (⟨rfl, by rw [hc, show i = s.1 by omega]; rfl⟩)
    · refine aX_aload_n dX5_soundingAt_12 rfl ?_
      refine aX_iload_n dX5_soundingAt_13 rfl ?_
      refine aX_iload_n dX5_soundingAt_14 rfl ?_
      refine cVp (As := [.int (nI (t)), .int (nI (i))]) (st := []) (v := .int (bI (jOn s i t))) dX5_soundingAt_15 kX5_soundingAt_64 s16 aEok0 rfl rfl (Nat.le_of_ble_eq_true rfl) (c_isAt hR hs ho (by omega) (by omega)) ?_
      refine bEq (tgt := 24) dX5_soundingAt_18 (by decide) (fun c2 => ?_) (fun c2 => ?_)
      · refine nInc (lv' := [(0, .ref 16), (1, .int (nI (t))), (2, .int (nI (c))), (3, .int (nI (i + 1)))]) dX5_soundingAt_24 rfl rfl (by decide) rfl ?_
        refine aX_goto (tgt := 4) dX5_soundingAt_27 (by decide) ?_
        exact ih (s.1 - (i + 1)) (by omega) (i + 1) (by omega) rfl _ (by first | (rw [jCnt_t (f := fun i => jOn s i t) (by assumption), hc]) | (rw [jCnt_f (f := fun i => jOn s i t) (by assumption)]; exact hc))
      · refine nInc (lv' := [(0, .ref 16), (1, .int (nI (t))), (2, .int (nI (c + 1))), (3, .int (nI (i)))]) dX5_soundingAt_21 rfl rfl (by decide) rfl ?_
        refine nInc (lv' := [(0, .ref 16), (1, .int (nI (t))), (2, .int (nI (c + 1))), (3, .int (nI (i + 1)))]) dX5_soundingAt_24 rfl rfl (by decide) rfl ?_
        refine aX_goto (tgt := 4) dX5_soundingAt_27 (by decide) ?_
        exact ih (s.1 - (i + 1)) (by omega) (i + 1) (by omega) rfl _ (by first | (rw [jCnt_t (f := fun i => jOn s i t) (by assumption), hc]) | (rw [jCnt_f (f := fun i => jOn s i t) (by assumption)]; exact hc))

set_option maxHeartbeats 1000000 in
theorem c_soundingAt {I : Nat → Nat → Int32} {L : Nat → Nat → Int64} {R : Nat → Nat → Option Nat} (hR : aRf R) {s : jN} {t : Nat} (hs : nRep I s) (ho : jOk s) (ht : t < 2 ^ 31) : aMp mX5_soundingAt [.ref 16, .int (nI t)] (sh0, I, L, R) (.int (nI (jSnd s t))) := by
  refine aM_of plX5_soundingAt (Nat.le_of_ble_eq_true rfl) ?_
  refine aX_iconst (v := nI 0) dX5_soundingAt_0 (by decide) ?_
  refine aX_istore_n (lv' := [(0, .ref 16), (1, .int (nI (t))), (2, .int (nI (0)))]) dX5_soundingAt_1 (by decide) rfl ?_
  refine aX_iconst (v := nI 0) dX5_soundingAt_2 (by decide) ?_
  refine aX_istore_n (lv' := [(0, .ref 16), (1, .int (nI (t))), (2, .int (nI (0))), (3, .int (nI (0)))]) dX5_soundingAt_3 (by decide) rfl ?_
  exact l_soundingAt hR hs ho ht _ 0 (Nat.zero_le _) rfl 0 rfl

