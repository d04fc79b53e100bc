/-! numbers that a caller gives: any int -/
def jIx (x : Int32) (n : Nat) : Bool := !decide (x < 0) && decide (x < nI n)
theorem jIx_t {x : Int32} {n : Nat} (hn : n < 2 ^ 31) (h : jIx x n = true) : ∃ j, j < n ∧ x = nI j := by
  unfold jIx at h
  simp only [Bool.and_eq_true, Bool.not_eq_true', decide_eq_false_iff_not, decide_eq_true_eq] at h
  obtain ⟨j, hj, rfl⟩ := nI_of h.1
  exact ⟨j, (nI_ltI hj hn).mp h.2, rfl⟩
theorem jIx_nI {j n : Nat} (hj : j < 2 ^ 31) (hn : n < 2 ^ 31) : jIx (nI j) n = decide (j < n) := by
  unfold jIx
  rw [show decide (nI j < 0) = false from decide_eq_false (nI_pos hj)]
  simp [nI_ltI hj hn]
theorem jIx_neg {x : Int32} {n : Nat} (h : x < 0) : jIx x n = false := by unfold jIx; simp [h]
theorem jIx_ge {x : Int32} {n : Nat} (h : nI n ≤ x) : jIx x n = false := by unfold jIx; simp [Int32.not_lt.mpr h]
theorem jIx_in {x : Int32} {n : Nat} (h1 : ¬ x < 0) (h2 : ¬ nI n ≤ x) : jIx x n = true := by unfold jIx; simp [h1, Int32.not_le.mp h2]
theorem jSets_in {s : jN} : ∀ {f t k : Nat} {q : Nat × Nat}, (jSets s f t)[k]? = some q → q.1 < 9999 ∧ q.2 ≤ 9999 ∧ 0 < jSnd s q.1
  | 0, t, k, q, h => by simp [jSets] at h
  | f + 1, t, k, q, h => by
    rcases Nat.lt_or_ge t 9999 with c | c
    · rcases Nat.eq_zero_or_pos (jSnd s t) with z | z
      · rw [jSets_no c z] at h
        exact jSets_in h
      · rw [jSets_yes c z] at h
        cases k with
        | zero => cases h; exact ⟨c, jNext_le s _, z⟩
        | succ k => exact jSets_in (by simpa using h)
    · rw [jSets_end (Or.inr c)] at h
      simp at h
theorem jS_len (s : jN) : (jS s).length ≤ 31 := jSets_len s 31 _
theorem jS_in {s : jN} {k : Nat} {q : Nat × Nat} (h : (jS s)[k]? = some q) : q.1 < 9999 ∧ q.2 ≤ 9999 ∧ 0 < jSnd s q.1 := jSets_in h
/-- the class's cells hold a score: notes, sets, variables -/
def cRep (I : Nat → Nat → Int32) (s : jN) : Prop := nRep I s ∧ jOk s ∧ jSix s ∧ sRep I s (jS s) ∧ vRep I s (jS s)
/-- the note y sounds in the set x -/
def jPart (s : jN) (x y : Int32) : Bool := jIx x (jS s).length && jIx y s.1 && jOn s y.toNatClampNeg ((jS s).getD x.toNatClampNeg (0, 0)).1
theorem jPart_t {s : jN} {x y : Int32} (ho : jOk s) (h : jPart s x y = true) : ∃ k i q, x = nI k ∧ y = nI i ∧ (jS s)[k]? = some q ∧ k < 31 ∧ i < s.1 ∧ jOn s i q.1 = true := by
  unfold jPart at h
  simp only [Bool.and_eq_true] at h
  have hl := jS_len s
  have hn := ho.1
  obtain ⟨k, hk, rfl⟩ := jIx_t (by omega) h.1.1
  obtain ⟨i, hi, rfl⟩ := jIx_t (by omega) h.1.2
  have hq : (jS s)[k]? = some (jS s)[k] := List.getElem?_eq_getElem hk
  refine ⟨k, i, _, rfl, rfl, hq, by omega, hi, ?_⟩
  have h2 := h.2
  rw [nI_clamp (by omega), nI_clamp (by omega), getD_of hq] at h2
  exact h2
theorem jBase_in {s : jN} {t : Nat} (h : 0 < jSnd s t) : jBs s t s.1 = some (jBase s t) ∧ jBase s t < s.1 ∧ jOn s (jBase s t) t = true := by
  have key : ∀ n, 0 < jCnt (fun i => jOn s i t) n → ∃ b, jBs s t n = some b := by
    intro n
    induction n with
    | zero => intro h; exact absurd h (Nat.lt_irrefl _)
    | succ n ih =>
      intro h
      cases ho : jOn s n t with
      | false => rw [jCnt_f (f := fun i => jOn s i t) ho] at h; rw [jBs_f ho]; exact ih h
      | true =>
        cases hb : jBs s t n with
        | none => exact ⟨n, jBs_t0 ho hb⟩
        | some b =>
          rcases Nat.lt_or_ge (s.2.1 n) (s.2.1 b) with c | c
          · exact ⟨n, jBs_t1 ho hb c⟩
          · exact ⟨b, jBs_t2 ho hb c⟩
  obtain ⟨b, hb⟩ := key s.1 h
  have e : jBase s t = b := by unfold jBase; rw [hb]; rfl
  rw [e]
  exact ⟨hb, jBs_lt hb⟩
/-- the notes COMMON to sets k and k + 1 -/
def jCm (s : jN) (k : Nat) : List Nat := (jMem s ((jS s).getD k (0, 0)).1).filter (fun m => jOn s m ((jS s).getD (k + 1) (0, 0)).1)
def cmRep (I : Nat → Nat → Int32) (l : List Nat) : Prop := I 16 13 = nI l.length ∧ ∀ j m, l[j]? = some m → I 27 j = nI m
def cmKeep (I I' : Nat → Nat → Int32) : Prop := ∀ q j, ¬ (q = 16 ∧ j = 13) → q ≠ 27 → I' q j = I q j
theorem nRep_cm {I I' : Nat → Nat → Int32} {s : jN} (h : cmKeep I I') (hs : nRep I s) : nRep I' s := by
  refine ⟨?_, fun i hi => ?_⟩
  · rw [h 16 0 (by omega) (by omega)]; exact hs.1
  · rw [h 17 i (by omega) (by omega), h 18 i (by omega) (by omega), h 19 i (by omega) (by omega), h 20 i (by omega) (by omega)]
    exact hs.2 i hi
theorem sRep_cm {I I' : Nat → Nat → Int32} {s : jN} {S : List (Nat × Nat)} (h : cmKeep I I') (hs : sRep I s S) : sRep I' s S := by
  refine ⟨by rw [h 16 5 (by omega) (by omega)]; exact hs.1, fun k q hq => ?_⟩
  obtain ⟨a, b, c, d, e⟩ := hs.2 k q hq
  refine ⟨?_, ?_, ?_, ?_, fun j m hj => ?_⟩
  · rw [h 21 k (by omega) (by omega)]; exact a
  · rw [h 22 k (by omega) (by omega)]; exact b
  · rw [h 23 k (by omega) (by omega)]; exact c
  · rw [h 24 k (by omega) (by omega)]; exact d
  · rw [h 25 (k * 6 + j) (by omega) (by omega)]; exact e j m hj
theorem vRep_cm {I I' : Nat → Nat → Int32} {s : jN} {S : List (Nat × Nat)} (h : cmKeep I I') (hs : vRep I s S) : vRep I' s S :=
  ⟨by rw [h 16 11 (by omega) (by omega)]; exact hs.1, fun k q m h1 h2 => by rw [h 26 _ (by omega) (by omega)]; exact hs.2 k q m h1 h2⟩
theorem cRep_cm {I I' : Nat → Nat → Int32} {s : jN} (h : cmKeep I I') (hs : cRep I s) : cRep I' s := ⟨nRep_cm h hs.1, hs.2.1, hs.2.2.1, sRep_cm h hs.2.2.2.1, vRep_cm h hs.2.2.2.2⟩
theorem take_filter_t {l : List Nat} {p : Nat → Bool} {i m : Nat} (hm : l[i]? = some m) (h : p m = true) : (l.take (i + 1)).filter p = (l.take i).filter p ++ [m] := by
  rw [List.take_succ, hm, List.filter_append]
  simp [h]
theorem take_filter_f {l : List Nat} {p : Nat → Bool} {i m : Nat} (hm : l[i]? = some m) (h : p m = false) : (l.take (i + 1)).filter p = (l.take i).filter p := by
  rw [List.take_succ, hm, List.filter_append]
  simp [h]
theorem cmRep_add {I : Nat → Nat → Int32} {l : List Nat} {m : Nat} (h : cmRep I l) : cmRep (aU (aU I 27 l.length (nI m)) 16 13 (nI (l.length + 1))) (l ++ [m]) := by
  refine ⟨by rw [aU_s]; simp, fun j x hx => ?_⟩
  rw [aU_n (by omega)]
  by_cases e : j < l.length
  · rw [List.getElem?_append_left e] at hx
    rw [aU_n (by omega)]; exact h.2 j x hx
  · rw [List.getElem?_append_right (by omega)] at hx
    have hz : j - l.length < 1 := (List.getElem?_eq_some_iff.mp hx).1
    rw [show j - l.length = 0 by omega] at hx
    cases hx
    rw [show j = l.length by omega, aU_s]
set_option maxHeartbeats 1000000 in
theorem c_hasNoteX {I : Nat → Nat → Int32} {L : Nat → Nat → Int64} {R : Nat → Nat → Option Nat} (hR : aRf R) {s : jN} (hc : cRep I s) {x : Int32} : aMp mX5_hasNote [.ref 16, .int x] (sh0, I, L, R) (.int (bI (jIx x s.1))) := by
  obtain ⟨hs, ho, h6, hS, hV⟩ := id hc
  have hn := ho.1
  have hSl := jS_len s
  refine aM_of plX5_hasNote (Nat.le_of_ble_eq_true rfl) ?_
  refine aX_iload_n dX5_hasNote_0 rfl ?_
  refine aX_if_lt (tgt := 16) dX5_hasNote_1 (by decide) (fun c1 => ?_) (fun c1 => ?_)
  · refine aX_iconst (v := nI 0) dX5_hasNote_16 (by decide) ?_
    exact rZ dX5_hasNote_17 rfl (Or.inl rfl) (⟨rfl, by first | (rw [jIx_neg (by assumption)]; rfl) | (rw [jIx_ge (by assumption)]; rfl)⟩)
  · refine aX_iload_n dX5_hasNote_4 rfl ?_
    refine aX_aload_n dX5_hasNote_5 rfl ?_
    refine aX_get (v := .int (nI (s.1))) dX5_hasNote_6 lfX5_46 s16 (congrArg Value.int (hs.1)) ?_
    refine aX_icmp_ge (tgt := 16) dX5_hasNote_9 (by decide) (fun c2 => ?_) (fun c2 => ?_)
    · refine aX_iconst (v := nI 0) dX5_hasNote_16 (by decide) ?_
      exact rZ dX5_hasNote_17 rfl (Or.inl rfl) (⟨rfl, by first | (rw [jIx_neg (by assumption)]; rfl) | (rw [jIx_ge (by assumption)]; rfl)⟩)
    · refine aX_iconst (v := nI 1) dX5_hasNote_12 (by decide) ?_
      refine aX_goto (tgt := 17) dX5_hasNote_13 (by decide) ?_
      exact rZ dX5_hasNote_17 rfl (Or.inr rfl) (⟨rfl, by rw [jIx_in (by assumption) (by assumption)]; rfl⟩)

set_option maxHeartbeats 1000000 in
theorem c_hasSetX {I : Nat → Nat → Int32} {L : Nat → Nat → Int64} {R : Nat → Nat → Option Nat} (hR : aRf R) {s : jN} (hc : cRep I s) {x : Int32} : aMp mX5_hasSet [.ref 16, .int x] (sh0, I, L, R) (.int (bI (jIx x (jS s).length))) := by
  obtain ⟨hs, ho, h6, hS, hV⟩ := id hc
  have hn := ho.1
  have hSl := jS_len s
  refine aM_of plX5_hasSet (Nat.le_of_ble_eq_true rfl) ?_
  refine aX_iload_n dX5_hasSet_0 rfl ?_
  refine aX_if_lt (tgt := 16) dX5_hasSet_1 (by decide) (fun c1 => ?_) (fun c1 => ?_)
  · refine aX_iconst (v := nI 0) dX5_hasSet_16 (by decide) ?_
    exact rZ dX5_hasSet_17 rfl (Or.inl rfl) (⟨rfl, by first | (rw [jIx_neg (by assumption)]; rfl) | (rw [jIx_ge (by assumption)]; rfl)⟩)
  · refine aX_iload_n dX5_hasSet_4 rfl ?_
    refine aX_aload_n dX5_hasSet_5 rfl ?_
    refine aX_get (v := .int (nI ((jS s).length))) dX5_hasSet_6 lfX5_50 s16 (congrArg Value.int (hS.1)) ?_
    refine aX_icmp_ge (tgt := 16) dX5_hasSet_9 (by decide) (fun c2 => ?_) (fun c2 => ?_)
    · refine aX_iconst (v := nI 0) dX5_hasSet_16 (by decide) ?_
      exact rZ dX5_hasSet_17 rfl (Or.inl rfl) (⟨rfl, by first | (rw [jIx_neg (by assumption)]; rfl) | (rw [jIx_ge (by assumption)]; rfl)⟩)
    · refine aX_iconst (v := nI 1) dX5_hasSet_12 (by decide) ?_
      refine aX_goto (tgt := 17) dX5_hasSet_13 (by decide) ?_
      exact rZ dX5_hasSet_17 rfl (Or.inr rfl) (⟨rfl, by rw [jIx_in (by assumption) (by assumption)]; rfl⟩)

set_option maxHeartbeats 1000000 in
theorem c_isPart {I : Nat → Nat → Int32} {L : Nat → Nat → Int64} {R : Nat → Nat → Option Nat} (hR : aRf R) {s : jN} (hc : cRep I s) {x y : Int32} : aMp mX5_isPart [.ref 16, .int x, .int y] (sh0, I, L, R) (.int (bI (jPart s x y))) := by
  obtain ⟨hs, ho, h6, hS, hV⟩ := id hc
  have hn := ho.1
  have hSl := jS_len s
  refine aM_of plX5_isPart (Nat.le_of_ble_eq_true rfl) ?_
  refine aX_aload_n dX5_isPart_0 rfl ?_
  refine aX_iload_n dX5_isPart_1 rfl ?_
  refine cVp (As := [.int (x)]) (st := []) (v := .int (bI (jIx x (jS s).length))) dX5_isPart_2 kX5_isPart_53 s16 aEok0 rfl rfl (Nat.le_of_ble_eq_true rfl) (c_hasSetX hR hc) ?_
  refine bEq (tgt := 29) dX5_isPart_5 (by decide) (fun c1 => ?_) (fun c1 => ?_)
  · refine aX_iconst (v := nI 0) dX5_isPart_29 (by decide) ?_
    exact rZ dX5_isPart_30 rfl (Or.inl rfl) (⟨rfl, by rw [show jPart s x y = false by unfold jPart; simp_all]; rfl⟩)
  · refine aX_aload_n dX5_isPart_8 rfl ?_
    refine aX_iload_n dX5_isPart_9 rfl ?_
    refine cVp (As := [.int (y)]) (st := []) (v := .int (bI (jIx y s.1))) dX5_isPart_10 kX5_isPart_57 s16 aEok0 rfl rfl (Nat.le_of_ble_eq_true rfl) (c_hasNoteX hR hc) ?_
    refine bEq (tgt := 29) dX5_isPart_13 (by decide) (fun c2 => ?_) (fun c2 => ?_)
    · refine aX_iconst (v := nI 0) dX5_isPart_29 (by decide) ?_
      exact rZ dX5_isPart_30 rfl (Or.inl rfl) (⟨rfl, by rw [show jPart s x y = false by unfold jPart; simp_all]; rfl⟩)
    · refine aX_aload_n dX5_isPart_16 rfl ?_
      refine aX_iload_n dX5_isPart_17 rfl ?_
      refine aX_iload_n dX5_isPart_18 rfl ?_
      refine cVp (As := [.int (x), .int (y)]) (st := []) (v := .int (bI (jOn s y.toNatClampNeg ((jS s).getD x.toNatClampNeg (0, 0)).1))) dX5_isPart_19 kX5_isPart_60 s16 aEok0 rfl rfl (Nat.le_of_ble_eq_true rfl) (by obtain ⟨k, hk, rfl⟩ := jIx_t (n := (jS s).length) (by omega) (by assumption); obtain ⟨i, hi, rfl⟩ := jIx_t (n := s.1) (by omega) (by assumption); have hq : (jS s)[k]? = some (jS s)[k] := List.getElem?_eq_getElem hk; have hb := jS_in hq; rw [nI_clamp (show k < 2 ^ 31 by omega), nI_clamp (show i < 2 ^ 31 by omega), getD_of hq]; exact c_isIn hR hs ho hS hq (by omega) hi (by omega)) ?_
      refine bEq (tgt := 29) dX5_isPart_22 (by decide) (fun c3 => ?_) (fun c3 => ?_)
      · refine aX_iconst (v := nI 0) dX5_isPart_29 (by decide) ?_
        exact rZ dX5_isPart_30 rfl (Or.inl rfl) (⟨rfl, by rw [show jPart s x y = false by unfold jPart; simp_all]; rfl⟩)
      · refine aX_iconst (v := nI 1) dX5_isPart_25 (by decide) ?_
        refine aX_goto (tgt := 30) dX5_isPart_26 (by decide) ?_
        exact rZ dX5_isPart_30 rfl (Or.inr rfl) (⟨rfl, by rw [show jPart s x y = true by unfold jPart; simp_all]; rfl⟩)

set_option maxHeartbeats 1000000 in
theorem c_equalOf {I : Nat → Nat → Int32} {L : Nat → Nat → Int64} {R : Nat → Nat → Option Nat} (hR : aRf R) {s : jN} (hc : cRep I s) {i : Nat} (hi : i < s.1) : aMp mX5_equalOf [.ref 16, .int (nI i)] (sh0, I, L, R) (.int (nI (10000 * s.2.1 i))) := by
  obtain ⟨hs, ho, h6, hS, hV⟩ := id hc
  have hn := ho.1
  have hSl := jS_len s
  refine aM_of plX5_equalOf (Nat.le_of_ble_eq_true rfl) ?_
  refine aX_sipush (v := nI 10000) dX5_equalOf_0 (by decide) ?_
  refine aX_aload_n dX5_equalOf_3 rfl ?_
  refine aX_get dX5_equalOf_4 lfX5_9 s16 (f16_1 hR) ?_
  refine aX_iload_n dX5_equalOf_7 rfl ?_
  refine nIald (v := nI (s.2.1 i)) dX5_equalOf_8 s17 (by omega) (by decide) ((hs.2 i (by omega)).1) ?_
  refine nMul dX5_equalOf_9 ?_
  exact rI dX5_equalOf_10 rfl (⟨rfl, rfl⟩)

set_option maxHeartbeats 1000000 in
theorem c_baseKey {I : Nat → Nat → Int32} {L : Nat → Nat → Int64} {R : Nat → Nat → Option Nat} (hR : aRf R) {s : jN} (hc : cRep I s) {k : Nat} {q : Nat × Nat} (hq : (jS s)[k]? = some q) : aMp mX5_baseKey [.ref 16, .int (nI k)] (sh0, I, L, R) (.int (nI (s.2.1 (jBase s q.1)))) := by
  obtain ⟨hs, ho, h6, hS, hV⟩ := id hc
  have hn := ho.1
  have hSl := jS_len s
  have hkl : k < (jS s).length := (List.getElem?_eq_some_iff.mp hq).1
  have hbs := (jBase_in (jS_in hq).2.2).2.1
  refine aM_of plX5_baseKey (Nat.le_of_ble_eq_true rfl) ?_
  refine aX_aload_n dX5_baseKey_0 rfl ?_
  refine aX_get dX5_baseKey_1 lfX5_9 s16 (f16_1 hR) ?_
  refine aX_aload_n dX5_baseKey_4 rfl ?_
  refine aX_get dX5_baseKey_5 lfX5_31 s16 (f16_8 hR) ?_
  refine aX_iload_n dX5_baseKey_8 rfl ?_
  refine nIald (v := nI (jBase s q.1)) dX5_baseKey_9 s23 (by omega) (by decide) ((hS.2 k q hq).2.2.1) ?_
  refine nIald (v := nI (s.2.1 (jBase s q.1))) dX5_baseKey_10 s17 (by omega) (by decide) ((hs.2 (jBase s q.1) (by omega)).1) ?_
  exact rI dX5_baseKey_11 rfl (⟨rfl, rfl⟩)

set_option maxHeartbeats 1000000 in
theorem c_removeAll {I : Nat → Nat → Int32} {L : Nat → Nat → Int64} {R : Nat → Nat → Option Nat} (hR : aRf R) {s : jN} (hc : cRep I s) : aM mX5_removeAll [.ref 16] (sh0, I, L, R) (fun r h' => r = some (.int (nI s.1)) ∧ h' = (sh0, aU (aU (aU I 16 0 (nI 0)) 16 5 (nI 0)) 16 11 (nI 0), L, R)) := by
  obtain ⟨hs, ho, h6, hS, hV⟩ := id hc
  have hn := ho.1
  have hSl := jS_len s
  refine aM_of plX5_removeAll (Nat.le_of_ble_eq_true rfl) ?_
  refine aX_aload_n dX5_removeAll_0 rfl ?_
  refine aX_get (v := .int (nI (s.1))) dX5_removeAll_1 lfX5_46 s16 (congrArg Value.int (hs.1)) ?_
  refine aX_istore_n (lv' := [(0, .ref 16), (1, .int (nI (s.1)))]) dX5_removeAll_4 (by decide) rfl ?_
  refine aX_aload_n dX5_removeAll_5 rfl ?_
  refine aX_iconst (v := nI 0) dX5_removeAll_6 (by decide) ?_
  refine pI dX5_removeAll_7 lfX5_46 (fun _ _ _ hq => by cases hq; exact Or.inl rfl) s16 rfl ?_
  refine aX_aload_n dX5_removeAll_10 rfl ?_
  refine aX_iconst (v := nI 0) dX5_removeAll_11 (by decide) ?_
  refine pI dX5_removeAll_12 lfX5_50 (fun _ _ _ hq => by cases hq; exact Or.inl rfl) s16 rfl ?_
  refine aX_aload_n dX5_removeAll_15 rfl ?_
  refine aX_iconst (v := nI 0) dX5_removeAll_16 (by decide) ?_
  refine pI dX5_removeAll_17 lfX5_77 (fun _ _ _ hq => by cases hq; exact Or.inl rfl) s16 rfl ?_
  refine aX_iload_n dX5_removeAll_20 rfl ?_
  exact rI dX5_removeAll_21 rfl (⟨rfl, rfl⟩)

set_option maxHeartbeats 1000000 in
theorem l_findCommon {I : Nat → Nat → Int32} {L : Nat → Nat → Int64} {R : Nat → Nat → Option Nat} (hR : aRf R) {s : jN} (hc : cRep I s) {k : Nat} {q q1 : Nat × Nat} (hq : (jS s)[k]? = some q) (hq1 : (jS s)[k + 1]? = some q1) : ∀ (k9 i : Nat), i ≤ jSnd s q.1 → jSnd s q.1 - i = k9 → ∀ I1 : Nat → Nat → Int32, cmRep I1 ((jMem s q.1).take i |>.filter (fun m => jOn s m q1.1)) → cmKeep I I1 → aX mX5_findCommon aE0 (sh0, I1, L, R) 26 [(0, .ref 16), (1, .int (nI k)), (2, .int (nI i))] [] 0 0 (fun r h' => r = none ∧ ∃ I', h' = (sh0, I', L, R) ∧ cmRep I' (jCm s k) ∧ cmKeep I I') := by
  intro k9
  induction k9 using Nat.strongRecOn with
  | _ k9 ih =>
    intro i hi hk9 I1 hcm hkp
    obtain ⟨hs, ho, h6, hS, hV⟩ := id hc
    have hn := ho.1
    have hSl := jS_len s
    have hs1 := nRep_cm hkp hs
    have hS1 := sRep_cm hkp hS
    have hkl : k + 1 < (jS s).length := (List.getElem?_eq_some_iff.mp hq1).1
    have hb1 := jS_in hq1
    have hsl := jSnd_le s q.1
    refine aX_iload_n dX5_findCommon_26 rfl ?_
    refine aX_aload_n dX5_findCommon_27 rfl ?_
    refine aX_get dX5_findCommon_28 lfX5_34 s16 (f16_9 hR) ?_
    refine aX_iload_n dX5_findCommon_31 rfl ?_
    refine nIald (v := nI (jSnd s q.1)) dX5_findCommon_32 s24 (by omega) (by decide) ((hS1.2 k q hq).2.2.2.1) ?_
    refine nGe (tgt := 85) dX5_findCommon_33 (by decide) (by omega) (by omega) (fun c1 => ?_) (fun c1 => ?_)
    · exact rV dX5_findCommon_85 rfl (⟨rfl, I1, rfl, by unfold jCm; rw [getD_of hq, getD_of hq1]; rw [List.take_of_length_le (by rw [jMem_len]; omega)] at hcm; exact hcm, hkp⟩)
    · obtain ⟨m, hm⟩ : ∃ m, (jMem s q.1)[i]? = some m := ⟨_, List.getElem?_eq_getElem (by rw [jMem_len]; exact c1)⟩
      have hml := (jMem_lt hm).1
      have hij := jMem_jlt h6 hm
      have hfl : ((jMem s q.1).take i |>.filter (fun m => jOn s m q1.1)).length ≤ i := Nat.le_trans (List.length_filter_le _ _) (by rw [List.length_take]; omega)
      refine aX_aload_n dX5_findCommon_36 rfl ?_
      refine aX_get dX5_findCommon_37 lfX5_37 s16 (f16_10 hR) ?_
      refine aX_iload_n dX5_findCommon_40 rfl ?_
      refine aX_bipush (v := nI 6) dX5_findCommon_41 (by decide) ?_
      refine nMul dX5_findCommon_43 ?_
      refine aX_iload_n dX5_findCommon_44 rfl ?_
      refine nAdd dX5_findCommon_45 ?_
      refine nIald (v := nI (m)) dX5_findCommon_46 s25 (by omega) (by decide) ((hS1.2 k q hq).2.2.2.2 i m hm) ?_
      refine aX_istore_n (lv' := [(0, .ref 16), (1, .int (nI (k))), (2, .int (nI (i))), (3, .int (nI (m)))]) dX5_findCommon_47 (by decide) rfl ?_
      refine aX_aload_n dX5_findCommon_48 rfl ?_
      refine aX_iload_n dX5_findCommon_49 rfl ?_
      refine aX_iconst (v := nI 1) dX5_findCommon_50 (by decide) ?_
      refine nAdd dX5_findCommon_51 ?_
      refine aX_iload_n dX5_findCommon_52 rfl ?_
      refine cVp (As := [.int (nI (k + 1)), .int (nI (m))]) (st := []) (v := .int (bI (jOn s m q1.1))) dX5_findCommon_53 kX5_findCommon_60 s16 aEok0 rfl rfl (Nat.le_of_ble_eq_true rfl) (c_isIn hR hs1 ho hS1 hq1 (by omega) hml (by omega)) ?_
      refine bEq (tgt := 79) dX5_findCommon_56 (by decide) (fun c2 => ?_) (fun c2 => ?_)
      · refine nInc (lv' := [(0, .ref 16), (1, .int (nI (k))), (2, .int (nI (i + 1))), (3, .int (nI (m)))]) dX5_findCommon_79 rfl rfl (by decide) rfl ?_
        refine aX_goto (tgt := 26) dX5_findCommon_82 (by decide) ?_
        refine aX_lv (lv' := [(0, .ref 16), (1, .int (nI k)), (2, .int (nI (i + 1)))]) [0, 1, 2] rfl ?_
        exact ih (jSnd s q.1 - (i + 1)) (by omega) (i + 1) (by omega) rfl I1 (by rw [take_filter_f hm (by assumption)]; exact hcm) hkp
      · refine aX_aload_n dX5_findCommon_59 rfl ?_
        refine aX_get dX5_findCommon_60 lfX5_43 s16 (f16_14 hR) ?_
        refine aX_aload_n dX5_findCommon_63 rfl ?_
        refine aX_get (v := .int (nI (((jMem s q.1).take i |>.filter (fun m => jOn s m q1.1)).length))) dX5_findCommon_64 lfX5_99 s16 (congrArg Value.int (hcm.1)) ?_
        refine aX_iload_n dX5_findCommon_67 rfl ?_
        refine nIast dX5_findCommon_68 s27 (by omega) (by decide) ?_
        refine aX_aload_n dX5_findCommon_69 rfl ?_
        refine aX_dup dX5_findCommon_70 rfl ?_
        refine aX_get (v := .int (nI (((jMem s q.1).take i |>.filter (fun m => jOn s m q1.1)).length))) dX5_findCommon_71 lfX5_99 s16 (congrArg Value.int ((show (aU I1 27 (((jMem s q.1).take i |>.filter (fun m => jOn s m q1.1)).length) (nI (m))) 16 13 = I1 16 13 from congrFun (aU_o (by decide)) _).trans hcm.1)) ?_
        refine aX_iconst (v := nI 1) dX5_findCommon_74 (by decide) ?_
        refine nAdd dX5_findCommon_75 ?_
        refine pI dX5_findCommon_76 lfX5_99 (fun _ _ _ hq => by cases hq; exact Or.inl rfl) s16 rfl ?_
        refine nInc (lv' := [(0, .ref 16), (1, .int (nI (k))), (2, .int (nI (i + 1))), (3, .int (nI (m)))]) dX5_findCommon_79 rfl rfl (by decide) rfl ?_
        refine aX_goto (tgt := 26) dX5_findCommon_82 (by decide) ?_
        refine aX_lv (lv' := [(0, .ref 16), (1, .int (nI k)), (2, .int (nI (i + 1)))]) [0, 1, 2] rfl ?_
        exact ih (jSnd s q.1 - (i + 1)) (by omega) (i + 1) (by omega) rfl _ (by rw [take_filter_t hm (by assumption)]; exact cmRep_add hcm) (fun a b h1 h2 => by rw [aU_n h1, aU_n (by omega)]; exact hkp a b h1 h2)

set_option maxHeartbeats 1000000 in
theorem c_findCommon {I : Nat → Nat → Int32} {L : Nat → Nat → Int64} {R : Nat → Nat → Option Nat} (hR : aRf R) {s : jN} (hc : cRep I s) {k : Nat} {q q1 : Nat × Nat} (hq : (jS s)[k]? = some q) (hq1 : (jS s)[k + 1]? = some q1) : aM mX5_findCommon [.ref 16, .int (nI k)] (sh0, I, L, R) (fun r h' => r = none ∧ ∃ I', h' = (sh0, I', L, R) ∧ cmRep I' (jCm s k) ∧ cmKeep I I') := by
  obtain ⟨hs, ho, h6, hS, hV⟩ := id hc
  have hn := ho.1
  have hSl := jS_len s
  have hkl : k + 1 < (jS s).length := (List.getElem?_eq_some_iff.mp hq1).1
  refine aM_of plX5_findCommon (Nat.le_of_ble_eq_true rfl) ?_
  refine aX_aload_n dX5_findCommon_0 rfl ?_
  refine aX_iconst (v := nI 0) dX5_findCommon_1 (by decide) ?_
  refine pI dX5_findCommon_2 lfX5_99 (fun _ _ _ hq => by cases hq; exact Or.inl rfl) s16 rfl ?_
  refine aX_aload_n dX5_findCommon_5 rfl ?_
  refine aX_iload_n dX5_findCommon_6 rfl ?_
  refine cVp (As := [.int (nI (k))]) (st := []) (v := .int (bI (true))) dX5_findCommon_7 kX5_findCommon_53 s16 aEok0 rfl rfl (Nat.le_of_ble_eq_true rfl) (by have z := c_hasSetX (L := L) hR (cRep_cm (I := I) (I' := aU I 16 13 (nI 0)) (fun a b h1 h2 => aU_n h1) hc) (x := nI (k)); rw [jIx_nI (by omega) (by omega)] at z; rw [show decide (k < (jS s).length) = true from decide_eq_true (by omega)] at z; exact z) ?_
  refine bEq (tgt := 23) dX5_findCommon_10 (by decide) (fun c1 => ?_) (fun c1 => ?_)
  · exact absurd c1 (by decide)
  · refine aX_aload_n dX5_findCommon_13 rfl ?_
    refine aX_iload_n dX5_findCommon_14 rfl ?_
    refine aX_iconst (v := nI 1) dX5_findCommon_15 (by decide) ?_
    refine nAdd dX5_findCommon_16 ?_
    refine cVp (As := [.int (nI (k + 1))]) (st := []) (v := .int (bI (true))) dX5_findCommon_17 kX5_findCommon_53 s16 aEok0 rfl rfl (Nat.le_of_ble_eq_true rfl) (by have z := c_hasSetX (L := L) hR (cRep_cm (I := I) (I' := aU I 16 13 (nI 0)) (fun a b h1 h2 => aU_n h1) hc) (x := nI (k + 1)); rw [jIx_nI (by omega) (by omega)] at z; rw [show decide (k + 1 < (jS s).length) = true from decide_eq_true (by omega)] at z; exact z) ?_
    refine bNe (tgt := 24) dX5_findCommon_20 (by decide) (fun c2 => ?_) (fun c2 => ?_)
    · refine aX_iconst (v := nI 0) dX5_findCommon_24 (by decide) ?_
      refine aX_istore_n (lv' := [(0, .ref 16), (1, .int (nI (k))), (2, .int (nI (0)))]) dX5_findCommon_25 (by decide) rfl ?_
      exact l_findCommon hR hc hq hq1 _ 0 (Nat.zero_le _) rfl _ ⟨aU_s, fun j m hj => by simp at hj⟩ (fun a b h1 h2 => aU_n h1)
    · exact absurd c2 (by decide)

set_option maxHeartbeats 1000000 in
theorem c_findCommon0 {I : Nat → Nat → Int32} {L : Nat → Nat → Int64} {R : Nat → Nat → Option Nat} (hR : aRf R) {s : jN} (hc : cRep I s) {x : Int32} (hx : (jIx x (jS s).length && jIx (x + nI 1) (jS s).length) = false) : aM mX5_findCommon [.ref 16, .int x] (sh0, I, L, R) (fun r h' => r = none ∧ h' = (sh0, aU I 16 13 (nI 0), L, R)) := by
  obtain ⟨hs, ho, h6, hS, hV⟩ := id hc
  have hn := ho.1
  have hSl := jS_len s
  refine aM_of plX5_findCommon (Nat.le_of_ble_eq_true rfl) ?_
  refine aX_aload_n dX5_findCommon_0 rfl ?_
  refine aX_iconst (v := nI 0) dX5_findCommon_1 (by decide) ?_
  refine pI dX5_findCommon_2 lfX5_99 (fun _ _ _ hq => by cases hq; exact Or.inl rfl) s16 rfl ?_
  refine aX_aload_n dX5_findCommon_5 rfl ?_
  refine aX_iload_n dX5_findCommon_6 rfl ?_
  refine cVp (As := [.int (x)]) (st := []) (v := .int (bI (jIx x (jS s).length))) dX5_findCommon_7 kX5_findCommon_53 s16 aEok0 rfl rfl (Nat.le_of_ble_eq_true rfl) (c_hasSetX hR (cRep_cm (I := I) (I' := aU I 16 13 (nI 0)) (fun a b h1 h2 => aU_n h1) hc)) ?_
  refine bEq (tgt := 23) dX5_findCommon_10 (by decide) (fun c1 => ?_) (fun c1 => ?_)
  · exact rV dX5_findCommon_23 rfl (⟨rfl, rfl⟩)
  · refine aX_aload_n dX5_findCommon_13 rfl ?_
    refine aX_iload_n dX5_findCommon_14 rfl ?_
    refine aX_iconst (v := nI 1) dX5_findCommon_15 (by decide) ?_
    refine aX_iadd dX5_findCommon_16 ?_
    refine cVp (As := [.int (x + (nI (1)))]) (st := []) (v := .int (bI (jIx (x + (nI (1))) (jS s).length))) dX5_findCommon_17 kX5_findCommon_53 s16 aEok0 rfl rfl (Nat.le_of_ble_eq_true rfl) (c_hasSetX hR (cRep_cm (I := I) (I' := aU I 16 13 (nI 0)) (fun a b h1 h2 => aU_n h1) hc)) ?_
    refine bNe (tgt := 24) dX5_findCommon_20 (by decide) (fun c2 => ?_) (fun c2 => ?_)
    · simp_all
    · exact rV dX5_findCommon_23 rfl (⟨rfl, rfl⟩)

