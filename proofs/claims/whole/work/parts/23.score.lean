set_option maxHeartbeats 1000000 in
theorem l_tickAfter {I : Nat → Nat → Int32} {L : Nat → Nat → Int64} {R : Nat → Nat → Option Nat} (hR : aRf R) {s : jN} {a : Nat} {v : Int32} (hs : nRep I s) (ho : jOk s) (ha : a < 2 ^ 30) (hv : v = nI a - 1) : ∀ (k i : Nat), i ≤ s.1 → s.1 - i = k → ∀ m : Nat, m = jNx s a i → aX mX5_tickAfter aE0 (sh0, I, L, R) 6 [(0, .ref 16), (1, .int v), (2, .int (nI m)), (3, .int (nI i))] [] 0 0 (fun r h' => h' = (sh0, I, L, R) ∧ r = some (.int (nI (jNext s a)))) := by
  intro k
  induction k using Nat.strongRecOn with
  | _ k ih =>
    intro i hi hk m hm
    have hn := ho.1
    have hml := jNx_le s a i
    refine aX_iload_n dX5_tickAfter_6 rfl ?_
    refine aX_aload_n dX5_tickAfter_7 rfl ?_
    refine aX_get (v := .int (nI (s.1))) dX5_tickAfter_8 lfX5_46 s16 (congrArg Value.int (hs.1)) ?_
    refine nGe (tgt := 62) dX5_tickAfter_11 (by decide) (by omega) (by omega) (fun c1 => ?_) (fun c1 => ?_)
    · refine aX_iload_n dX5_tickAfter_62 rfl ?_
      exact rI dX5_tickAfter_63 rfl (⟨rfl, by rw [hm, show i = s.1 by omega]; rfl⟩)
    · have hb := ho.2 i c1
      refine aX_aload_n dX5_tickAfter_14 rfl ?_
      refine aX_get dX5_tickAfter_15 lfX5_15 s16 (f16_2 hR) ?_
      refine aX_iload_n dX5_tickAfter_18 rfl ?_
      refine nIald (v := nI (s.2.2.1 i)) dX5_tickAfter_19 s18 (by omega) (by decide) ((hs.2 i (by omega)).2.1) ?_
      refine aX_iload_n dX5_tickAfter_20 rfl ?_
      refine aX_icmp_le (tgt := 35) dX5_tickAfter_21 (by decide) (fun c2 => ?_) (fun c2 => ?_)
      · have c2n := (nI_pm (f := s.2.2.1 i) (a := a) (by omega) (by omega))
        rw [← hv] at c2n
        have c2m := c2n.mp c2
        refine aX_aload_n dX5_tickAfter_35 rfl ?_
        refine aX_get dX5_tickAfter_36 lfX5_18 s16 (f16_3 hR) ?_
        refine aX_iload_n dX5_tickAfter_39 rfl ?_
        refine nIald (v := nI (s.2.2.2.1 i)) dX5_tickAfter_40 s19 (by omega) (by decide) ((hs.2 i (by omega)).2.2.1) ?_
        refine aX_iload_n dX5_tickAfter_41 rfl ?_
        refine aX_icmp_le (tgt := 56) dX5_tickAfter_42 (by decide) (fun c3 => ?_) (fun c3 => ?_)
        · have c3n := (nI_pm (f := s.2.2.2.1 i) (a := a) (by omega) (by omega))
          rw [← hv] at c3n
          have c3m := c3n.mp c3
          refine nInc (lv' := [(0, .ref 16), (1, .int (v)), (2, .int (nI (m))), (3, .int (nI (i + 1)))]) dX5_tickAfter_56 rfl rfl (by decide) rfl ?_
          refine aX_goto (tgt := 6) dX5_tickAfter_59 (by decide) ?_
          exact ih (s.1 - (i + 1)) (by omega) (i + 1) (by omega) rfl (m) (by first | (exfalso; omega) | (show _ = jNx s a (i + 1); unfold jNx; simp only; rw [← hm]; (repeat (first | rw [if_pos (by omega)] | rw [if_neg (by omega)]))))
        · have c3n := (nI_pm (f := s.2.2.2.1 i) (a := a) (by omega) (by omega))
          rw [← hv] at c3n
          have c3m := Nat.not_lt.mp (fun z => c3 (c3n.mpr z))
          refine aX_iload_n dX5_tickAfter_45 rfl ?_
          refine aX_aload_n dX5_tickAfter_46 rfl ?_
          refine aX_get dX5_tickAfter_47 lfX5_18 s16 (f16_3 hR) ?_
          refine aX_iload_n dX5_tickAfter_50 rfl ?_
          refine nIald (v := nI (s.2.2.2.1 i)) dX5_tickAfter_51 s19 (by omega) (by decide) ((hs.2 i (by omega)).2.2.1) ?_
          refine cSp (As := [.int (nI (m)), .int (nI (s.2.2.2.1 i))]) (st := []) (v := .int (nI (min m (s.2.2.2.1 i)))) dX5_tickAfter_52 kX5_tickAfter_87 aEok0 rfl rfl (Nat.le_of_ble_eq_true rfl) (c_min (by omega) (by omega)) ?_
          refine aX_istore_n (lv' := [(0, .ref 16), (1, .int (v)), (2, .int (nI (min m (s.2.2.2.1 i)))), (3, .int (nI (i)))]) dX5_tickAfter_55 (by decide) rfl ?_
          refine nInc (lv' := [(0, .ref 16), (1, .int (v)), (2, .int (nI (min m (s.2.2.2.1 i)))), (3, .int (nI (i + 1)))]) dX5_tickAfter_56 rfl rfl (by decide) rfl ?_
          refine aX_goto (tgt := 6) dX5_tickAfter_59 (by decide) ?_
          exact ih (s.1 - (i + 1)) (by omega) (i + 1) (by omega) rfl (min m (s.2.2.2.1 i)) (by first | (exfalso; omega) | (show _ = jNx s a (i + 1); unfold jNx; simp only; rw [← hm]; (repeat (first | rw [if_pos (by omega)] | rw [if_neg (by omega)]))))
      · have c2n := (nI_pm (f := s.2.2.1 i) (a := a) (by omega) (by omega))
        rw [← hv] at c2n
        have c2m := Nat.not_lt.mp (fun z => c2 (c2n.mpr z))
        refine aX_iload_n dX5_tickAfter_24 rfl ?_
        refine aX_aload_n dX5_tickAfter_25 rfl ?_
        refine aX_get dX5_tickAfter_26 lfX5_15 s16 (f16_2 hR) ?_
        refine aX_iload_n dX5_tickAfter_29 rfl ?_
        refine nIald (v := nI (s.2.2.1 i)) dX5_tickAfter_30 s18 (by omega) (by decide) ((hs.2 i (by omega)).2.1) ?_
        refine cSp (As := [.int (nI (m)), .int (nI (s.2.2.1 i))]) (st := []) (v := .int (nI (min m (s.2.2.1 i)))) dX5_tickAfter_31 kX5_tickAfter_87 aEok0 rfl rfl (Nat.le_of_ble_eq_true rfl) (c_min (by omega) (by omega)) ?_
        refine aX_istore_n (lv' := [(0, .ref 16), (1, .int (v)), (2, .int (nI (min m (s.2.2.1 i)))), (3, .int (nI (i)))]) dX5_tickAfter_34 (by decide) rfl ?_
        refine aX_aload_n dX5_tickAfter_35 rfl ?_
        refine aX_get dX5_tickAfter_36 lfX5_18 s16 (f16_3 hR) ?_
        refine aX_iload_n dX5_tickAfter_39 rfl ?_
        refine nIald (v := nI (s.2.2.2.1 i)) dX5_tickAfter_40 s19 (by omega) (by decide) ((hs.2 i (by omega)).2.2.1) ?_
        refine aX_iload_n dX5_tickAfter_41 rfl ?_
        refine aX_icmp_le (tgt := 56) dX5_tickAfter_42 (by decide) (fun c4 => ?_) (fun c4 => ?_)
        · have c4n := (nI_pm (f := s.2.2.2.1 i) (a := a) (by omega) (by omega))
          rw [← hv] at c4n
          have c4m := c4n.mp c4
          refine nInc (lv' := [(0, .ref 16), (1, .int (v)), (2, .int (nI (min m (s.2.2.1 i)))), (3, .int (nI (i + 1)))]) dX5_tickAfter_56 rfl rfl (by decide) rfl ?_
          refine aX_goto (tgt := 6) dX5_tickAfter_59 (by decide) ?_
          exact ih (s.1 - (i + 1)) (by omega) (i + 1) (by omega) rfl (min m (s.2.2.1 i)) (by first | (exfalso; omega) | (show _ = jNx s a (i + 1); unfold jNx; simp only; rw [← hm]; (repeat (first | rw [if_pos (by omega)] | rw [if_neg (by omega)]))))
        · have c4n := (nI_pm (f := s.2.2.2.1 i) (a := a) (by omega) (by omega))
          rw [← hv] at c4n
          have c4m := Nat.not_lt.mp (fun z => c4 (c4n.mpr z))
          refine aX_iload_n dX5_tickAfter_45 rfl ?_
          refine aX_aload_n dX5_tickAfter_46 rfl ?_
          refine aX_get dX5_tickAfter_47 lfX5_18 s16 (f16_3 hR) ?_
          refine aX_iload_n dX5_tickAfter_50 rfl ?_
          refine nIald (v := nI (s.2.2.2.1 i)) dX5_tickAfter_51 s19 (by omega) (by decide) ((hs.2 i (by omega)).2.2.1) ?_
          refine cSp (As := [.int (nI (min m (s.2.2.1 i))), .int (nI (s.2.2.2.1 i))]) (st := []) (v := .int (nI (min (min m (s.2.2.1 i)) (s.2.2.2.1 i)))) dX5_tickAfter_52 kX5_tickAfter_87 aEok0 rfl rfl (Nat.le_of_ble_eq_true rfl) (c_min (by omega) (by omega)) ?_
          refine aX_istore_n (lv' := [(0, .ref 16), (1, .int (v)), (2, .int (nI (min (min m (s.2.2.1 i)) (s.2.2.2.1 i)))), (3, .int (nI (i)))]) dX5_tickAfter_55 (by decide) rfl ?_
          refine nInc (lv' := [(0, .ref 16), (1, .int (v)), (2, .int (nI (min (min m (s.2.2.1 i)) (s.2.2.2.1 i)))), (3, .int (nI (i + 1)))]) dX5_tickAfter_56 rfl rfl (by decide) rfl ?_
          refine aX_goto (tgt := 6) dX5_tickAfter_59 (by decide) ?_
          exact ih (s.1 - (i + 1)) (by omega) (i + 1) (by omega) rfl (min (min m (s.2.2.1 i)) (s.2.2.2.1 i)) (by first | (exfalso; omega) | (show _ = jNx s a (i + 1); unfold jNx; simp only; rw [← hm]; (repeat (first | rw [if_pos (by omega)] | rw [if_neg (by omega)]))))

set_option maxHeartbeats 1000000 in
theorem c_tickAfter {I : Nat → Nat → Int32} {L : Nat → Nat → Int64} {R : Nat → Nat → Option Nat} (hR : aRf R) {s : jN} {a : Nat} {v : Int32} (hs : nRep I s) (ho : jOk s) (ha : a < 2 ^ 30) (hv : v = nI a - 1) : aMp mX5_tickAfter [.ref 16, .int v] (sh0, I, L, R) (.int (nI (jNext s a))) := by
  refine aM_of plX5_tickAfter (Nat.le_of_ble_eq_true rfl) ?_
  refine aX_sipush (v := nI 9999) dX5_tickAfter_0 (by decide) ?_
  refine aX_istore_n (lv' := [(0, .ref 16), (1, .int (v)), (2, .int (nI (9999)))]) dX5_tickAfter_3 (by decide) rfl ?_
  refine aX_iconst (v := nI 0) dX5_tickAfter_4 (by decide) ?_
  refine aX_istore_n (lv' := [(0, .ref 16), (1, .int (v)), (2, .int (nI (9999))), (3, .int (nI (0)))]) dX5_tickAfter_5 (by decide) rfl ?_
  exact l_tickAfter hR hs ho ha hv _ 0 (Nat.zero_le _) rfl 9999 rfl

theorem jFull_at {s : jN} {fr to i : Nat} (hi : i < s.1) (h1 : fr < s.2.2.1 i) (h2 : s.2.2.1 i < to) (h3 : 6 ≤ jSnd s (s.2.2.1 i)) : jFull s fr to = true := by
  have key : ∀ n, i < n → jFullAt s fr to n = true := by
    intro n
    induction n with
    | zero => intro h; omega
    | succ n ih =>
      intro h
      unfold jFullAt
      rcases Nat.lt_or_ge i n with c | c
      · rw [ih c]; rfl
      · rw [show n = i by omega]; simp [h1, h2, h3]
  unfold jFull
  rw [key s.1 hi]
  simp
set_option maxHeartbeats 1000000 in
theorem l_isFullFor {I : Nat → Nat → Int32} {L : Nat → Nat → Int64} {R : Nat → Nat → Option Nat} (hR : aRf R) {s : jN} {fr to : Nat} (hs : nRep I s) (ho : jOk s) (hf : fr < 2 ^ 30) (ht : to < 2 ^ 30) (h16 : s.1 < 16) (h6 : jSnd s fr < 6) : ∀ (k i : Nat), i ≤ s.1 → s.1 - i = k → jFullAt s fr to i = false → aX mX5_isFullFor aE0 (sh0, I, L, R) 23 [(0, .ref 16), (1, .int (nI fr)), (2, .int (nI to)), (3, .int (nI i))] [] 0 0 (fun r h' => h' = (sh0, I, L, R) ∧ r = some (.int (bI (jFull s fr to)))) := by
  intro k
  induction k using Nat.strongRecOn with
  | _ k ih =>
    intro i hi hk hF
    have hn := ho.1
    refine aX_iload_n dX5_isFullFor_23 rfl ?_
    refine aX_aload_n dX5_isFullFor_24 rfl ?_
    refine aX_get (v := .int (nI (s.1))) dX5_isFullFor_25 lfX5_46 s16 (congrArg Value.int (hs.1)) ?_
    refine nGe (tgt := 70) dX5_isFullFor_28 (by decide) (by omega) (by omega) (fun c1 => ?_) (fun c1 => ?_)
    · refine aX_iconst (v := nI 0) dX5_isFullFor_70 (by decide) ?_
      exact rZ dX5_isFullFor_71 rfl (Or.inl rfl) (⟨rfl, by rw [show jFull s fr to = false by unfold jFull; rw [← show i = s.1 by omega, hF]; simp; omega]; rfl⟩)
    · have hb := ho.2 i c1
      have hi2 := c1
      have hsl := jCnt_le (fun j => jOn s j (s.2.2.1 i)) s.1
      have hsl : jSnd s (s.2.2.1 i) ≤ s.1 := hsl
      refine aX_aload_n dX5_isFullFor_31 rfl ?_
      refine aX_get dX5_isFullFor_32 lfX5_15 s16 (f16_2 hR) ?_
      refine aX_iload_n dX5_isFullFor_35 rfl ?_
      refine nIald (v := nI (s.2.2.1 i)) dX5_isFullFor_36 s18 (by omega) (by decide) ((hs.2 i (by omega)).2.1) ?_
      refine aX_istore (lv' := [(0, .ref 16), (1, .int (nI (fr))), (2, .int (nI (to))), (3, .int (nI (i))), (4, .int (nI (s.2.2.1 i)))]) dX5_isFullFor_37 (by decide) rfl ?_
      refine aX_iload dX5_isFullFor_39 rfl ?_
      refine aX_iload_n dX5_isFullFor_41 rfl ?_
      refine nLe (tgt := 64) dX5_isFullFor_42 (by decide) (by omega) (by omega) (fun c2 => ?_) (fun c2 => ?_)
      · refine nInc (lv' := [(0, .ref 16), (1, .int (nI (fr))), (2, .int (nI (to))), (3, .int (nI (i + 1))), (4, .int (nI (s.2.2.1 i)))]) dX5_isFullFor_64 rfl rfl (by decide) rfl ?_
        refine aX_goto (tgt := 23) dX5_isFullFor_67 (by decide) ?_
        refine aX_lv (lv' := [(0, .ref 16), (1, .int (nI fr)), (2, .int (nI to)), (3, .int (nI (i + 1)))]) [0, 1, 2, 3] rfl ?_
        exact ih (s.1 - (i + 1)) (by omega) (i + 1) (by omega) rfl (by unfold jFullAt; rw [hF]; simp; omega)
      · refine aX_iload dX5_isFullFor_45 rfl ?_
        refine aX_iload_n dX5_isFullFor_47 rfl ?_
        refine nGe (tgt := 64) dX5_isFullFor_48 (by decide) (by omega) (by omega) (fun c3 => ?_) (fun c3 => ?_)
        · refine nInc (lv' := [(0, .ref 16), (1, .int (nI (fr))), (2, .int (nI (to))), (3, .int (nI (i + 1))), (4, .int (nI (s.2.2.1 i)))]) dX5_isFullFor_64 rfl rfl (by decide) rfl ?_
          refine aX_goto (tgt := 23) dX5_isFullFor_67 (by decide) ?_
          refine aX_lv (lv' := [(0, .ref 16), (1, .int (nI fr)), (2, .int (nI to)), (3, .int (nI (i + 1)))]) [0, 1, 2, 3] rfl ?_
          exact ih (s.1 - (i + 1)) (by omega) (i + 1) (by omega) rfl (by unfold jFullAt; rw [hF]; simp; omega)
        · refine aX_aload_n dX5_isFullFor_51 rfl ?_
          refine aX_iload dX5_isFullFor_52 rfl ?_
          refine cVp (As := [.int (nI (s.2.2.1 i))]) (st := []) (v := .int (nI (jSnd s (s.2.2.1 i)))) dX5_isFullFor_54 kX5_isFullFor_67 s16 aEok0 rfl rfl (Nat.le_of_ble_eq_true rfl) (c_soundingAt hR hs ho (by omega)) ?_
          refine aX_bipush (v := nI 6) dX5_isFullFor_57 (by decide) ?_
          refine nLt (tgt := 64) dX5_isFullFor_59 (by decide) (by omega) (by omega) (fun c4 => ?_) (fun c4 => ?_)
          · refine nInc (lv' := [(0, .ref 16), (1, .int (nI (fr))), (2, .int (nI (to))), (3, .int (nI (i + 1))), (4, .int (nI (s.2.2.1 i)))]) dX5_isFullFor_64 rfl rfl (by decide) rfl ?_
            refine aX_goto (tgt := 23) dX5_isFullFor_67 (by decide) ?_
            refine aX_lv (lv' := [(0, .ref 16), (1, .int (nI fr)), (2, .int (nI to)), (3, .int (nI (i + 1)))]) [0, 1, 2, 3] rfl ?_
            exact ih (s.1 - (i + 1)) (by omega) (i + 1) (by omega) rfl (by unfold jFullAt; rw [hF]; simp; omega)
          · refine aX_iconst (v := nI 1) dX5_isFullFor_62 (by decide) ?_
            exact rZ dX5_isFullFor_63 rfl (Or.inr rfl) (⟨rfl, by rw [show jFull s fr to = true by exact jFull_at hi2 (by omega) (by omega) (by omega)]; rfl⟩)

set_option maxHeartbeats 1000000 in
theorem c_isFullFor {I : Nat → Nat → Int32} {L : Nat → Nat → Int64} {R : Nat → Nat → Option Nat} (hR : aRf R) {s : jN} {fr to : Nat} (hs : nRep I s) (ho : jOk s) (hf : fr < 2 ^ 30) (ht : to < 2 ^ 30) : aMp mX5_isFullFor [.ref 16, .int (nI fr), .int (nI to)] (sh0, I, L, R) (.int (bI (jFull s fr to))) := by
  have hn := ho.1
  have hsl := jCnt_le (fun j => jOn s j fr) s.1
  have hsl : jSnd s fr ≤ s.1 := hsl
  refine aM_of plX5_isFullFor (Nat.le_of_ble_eq_true rfl) ?_
  refine aX_aload_n dX5_isFullFor_0 rfl ?_
  refine aX_get (v := .int (nI (s.1))) dX5_isFullFor_1 lfX5_46 s16 (congrArg Value.int (hs.1)) ?_
  refine aX_bipush (v := nI 16) dX5_isFullFor_4 (by decide) ?_
  refine nGe (tgt := 19) dX5_isFullFor_6 (by decide) (by omega) (by omega) (fun c1 => ?_) (fun c1 => ?_)
  · refine aX_iconst (v := nI 1) dX5_isFullFor_19 (by decide) ?_
    exact rZ dX5_isFullFor_20 rfl (Or.inr rfl) (⟨rfl, by rw [show jFull s fr to = true by unfold jFull; simp; omega]; rfl⟩)
  · refine aX_aload_n dX5_isFullFor_9 rfl ?_
    refine aX_iload_n dX5_isFullFor_10 rfl ?_
    refine cVp (As := [.int (nI (fr))]) (st := []) (v := .int (nI (jSnd s fr))) dX5_isFullFor_11 kX5_isFullFor_67 s16 aEok0 rfl rfl (Nat.le_of_ble_eq_true rfl) (c_soundingAt hR hs ho (by omega)) ?_
    refine aX_bipush (v := nI 6) dX5_isFullFor_14 (by decide) ?_
    refine nLt (tgt := 21) dX5_isFullFor_16 (by decide) (by omega) (by omega) (fun c2 => ?_) (fun c2 => ?_)
    · refine aX_iconst (v := nI 0) dX5_isFullFor_21 (by decide) ?_
      refine aX_istore_n (lv' := [(0, .ref 16), (1, .int (nI (fr))), (2, .int (nI (to))), (3, .int (nI (0)))]) dX5_isFullFor_22 (by decide) rfl ?_
      exact l_isFullFor hR hs ho hf ht (by omega) (by omega) _ 0 (Nat.zero_le _) rfl rfl
    · refine aX_iconst (v := nI 1) dX5_isFullFor_19 (by decide) ?_
      exact rZ dX5_isFullFor_20 rfl (Or.inr rfl) (⟨rfl, by rw [show jFull s fr to = true by unfold jFull; simp; omega]; rfl⟩)

