/-! findSets, numberVariables: what they keep -/
theorem jMem_len {s : jN} (t : Nat) : (jMem s t).length = jSnd s t := jML_len s t s.1
theorem jMem_lt {s : jN} {t j m : Nat} (h : (jMem s t)[j]? = some m) : m < s.1 ∧ jOn s m t = true := jML_mem.mp (List.mem_of_getElem? h)
theorem jMem_jlt {s : jN} {t j m : Nat} (h6 : jSix s) (h : (jMem s t)[j]? = some m) : j < 6 := by
  have h1 := (List.getElem?_eq_some_iff.mp h).1
  rw [jMem_len] at h1
  have := h6 t
  omega
theorem seRep_as {I I' : Nat → Nat → Int32} {s : jN} {k k' : Nat} {q : Nat × Nat} (h6 : jSix s) (h : asKeep I I' k) (hk : k' ≠ k) (hs : seRep I s k' q) : seRep I' s k' q := by
  obtain ⟨a, b, c, d, e⟩ := hs
  refine ⟨?_, ?_, ?_, ?_, fun j m hj => ?_⟩
  · rw [h 21 k' (by omega) (by omega) (by omega)]; exact a
  · rw [h 22 k' (by omega) (by omega) (by omega)]; exact b
  · rw [h 23 k' (by omega) (by omega) (by omega)]; exact c
  · rw [h 24 k' (by omega) (by omega) (by omega)]; exact d
  · have := jMem_jlt h6 hj
    rw [h 25 (k' * 6 + j) (by omega) (by omega) (by omega)]; exact e j m hj
theorem sRep_add {I I' : Nat → Nat → Int32} {s : jN} {D : List (Nat × Nat)} {q : Nat × Nat} (h6 : jSix s) (h : asKeep I I' D.length) (h5 : I' 16 5 = nI (D.length + 1)) (hq : seRep I' s D.length q) (hs : sRep I s D) : sRep I' s (D ++ [q]) := by
  refine ⟨by rw [h5]; simp, fun k x hx => ?_⟩
  by_cases e : k < D.length
  · rw [List.getElem?_append_left e] at hx
    exact seRep_as h6 h (by omega) (hs.2 k x hx)
  · rw [List.getElem?_append_right (by omega)] at hx
    have hz : k - D.length < 1 := (List.getElem?_eq_some_iff.mp hx).1
    rw [show k - D.length = 0 by omega] at hx
    cases hx
    rw [show k = D.length by omega]
    exact hq
def fsKeep (I I' : Nat → Nat → Int32) : Prop := ∀ q j, ¬ (q = 16 ∧ j = 5) → ¬ (21 ≤ q ∧ q ≤ 25) → I' q j = I q j
theorem fsKeep.as {I I1 I2 : Nat → Nat → Int32} {k : Nat} (h : fsKeep I I1) (h2 : asKeep I1 I2 k) : fsKeep I I2 := fun q j a b => by
  rw [h2 q j a (by omega) (by omega)]; exact h q j a b
theorem nRep_fs {I I' : Nat → Nat → Int32} {s : jN} (h : fsKeep I I') (hs : nRep I s) : nRep I' s := by
  refine ⟨?_, fun i hi => ?_⟩
  · rw [h 16 0 (by omega) (by omega)]; exact hs.1
  · rw [h 17 i (by omega) (by omega), h 18 i (by omega) (by omega), h 19 i (by omega) (by omega), h 20 i (by omega) (by omega)]
    exact hs.2 i hi
theorem jSets_end {s : jN} {f t : Nat} (h : f = 0 ∨ 9999 ≤ t) : jSets s f t = [] := by
  cases f with
  | zero => rfl
  | succ f =>
    unfold jSets
    rw [if_pos (by omega)]
theorem jSets_yes {s : jN} {f t : Nat} (h : t < 9999) (hc : 0 < jSnd s t) : jSets s (f + 1) t = (t, jNext s (t + 1)) :: jSets s f (jNext s (t + 1)) := by
  show (if 9999 ≤ t then _ else _) = _
  rw [if_neg (by omega), if_pos hc]
theorem jSets_no {s : jN} {f t : Nat} (h : t < 9999) (hc : jSnd s t = 0) : jSets s (f + 1) t = jSets s f (jNext s (t + 1)) := by
  show (if 9999 ≤ t then _ else _) = _
  rw [if_neg (by omega), if_neg (by omega)]
theorem jNext_le (s : jN) (a : Nat) : jNext s a ≤ 9999 := jNx_le s a s.1
theorem jSnd_le (s : jN) (t : Nat) : jSnd s t ≤ s.1 := jCnt_le _ _
/-- while the variables are numbered: set k, i of its members are done -/
def vIn (I : Nat → Nat → Int32) (s : jN) (S : List (Nat × Nat)) (k i c : Nat) (T : Nat → Nat → Nat) : Prop :=
  I 16 11 = nI c ∧ (∀ k' q m, k' < k → S[k']? = some q → m ∈ jMem s q.1 → I 26 (k' * 16 + m) = nI (T k' m)) ∧ (∀ q m, S[k]? = some q → m ∈ (jMem s q.1).take i → I 26 (k * 16 + m) = nI (T k m))
def nvKeep (I I' : Nat → Nat → Int32) : Prop := ∀ q j, ¬ (q = 16 ∧ j = 11) → q ≠ 26 → I' q j = I q j
theorem nRep_nv {I I' : Nat → Nat → Int32} {s : jN} (h : nvKeep I I') (hs : nRep I s) : nRep I' s := by
  refine ⟨?_, fun i hi => ?_⟩
  · rw [h 16 0 (by omega) (by omega)]; exact hs.1
  · rw [h 17 i (by omega) (by omega), h 18 i (by omega) (by omega), h 19 i (by omega) (by omega), h 20 i (by omega) (by omega)]
    exact hs.2 i hi
theorem sRep_nv {I I' : Nat → Nat → Int32} {s : jN} {S : List (Nat × Nat)} (h : nvKeep I I') (hs : sRep I s S) : sRep I' s S := by
  refine ⟨by rw [h 16 5 (by omega) (by omega)]; exact hs.1, fun k q hq => ?_⟩
  obtain ⟨a, b, c, d, e⟩ := hs.2 k q hq
  refine ⟨?_, ?_, ?_, ?_, fun j m hj => ?_⟩
  · rw [h 21 k (by omega) (by omega)]; exact a
  · rw [h 22 k (by omega) (by omega)]; exact b
  · rw [h 23 k (by omega) (by omega)]; exact c
  · rw [h 24 k (by omega) (by omega)]; exact d
  · rw [h 25 (k * 6 + j) (by omega) (by omega)]; exact e j m hj
theorem vIn_step {I : Nat → Nat → Int32} {s : jN} {S : List (Nat × Nat)} {k i c m c' v : Nat} {T : Nat → Nat → Nat} {q : Nat × Nat} {I' : Nat → Nat → Int32} (h16 : s.1 ≤ 16) (hin : vIn I s S k i c T) (hq : S[k]? = some q) (hm : (jMem s q.1)[i]? = some m) (hc : I' 16 11 = nI c') (hv : I' 26 (k * 16 + m) = nI v) (ho : ∀ j, j ≠ k * 16 + m → I' 26 j = I 26 j) : vIn I' s S k (i + 1) c' (aU T k m v) := by
  obtain ⟨a, b, d⟩ := hin
  have hml := (jMem_lt hm).1
  refine ⟨hc, fun k' q' m' hk' hq' hm' => ?_, fun q' m' hq' hm' => ?_⟩
  · have hm'l := (jML_mem.mp hm').1
    rw [ho _ (by omega), aU_n (by omega)]
    exact b k' q' m' hk' hq' hm'
  · cases hq.symm.trans hq'
    rw [List.take_succ, hm, List.mem_append] at hm'
    by_cases e : m' = m
    · subst e
      rw [hv, aU_s]
    · have hm'' : m' ∈ (jMem s q.1).take i := by
        rcases hm' with h | h
        · exact h
        · simp at h; exact absurd h e
      have hm'l := (jML_mem.mp (List.mem_of_mem_take hm'')).1
      rw [ho _ (by omega), aU_n (by omega)]
      exact d q m' hq hm''
theorem jV_step {s : jN} {S : List (Nat × Nat)} {k i m c : Nat} {T : Nat → Nat → Nat} {l : List Nat} (h : (l.take i).foldl (jVm s S k) (jVS s S k) = (c, T)) (hm : l[i]? = some m) : (l.take (i + 1)).foldl (jVm s S k) (jVS s S k) = jVm s S k (c, T) m := by
  rw [List.take_succ, hm, List.foldl_append, h]
  rfl
theorem jVm_t {s : jN} {S : List (Nat × Nat)} {k m c : Nat} {T : Nat → Nat → Nat} (h1 : s.2.2.2.2 m = true) (h2 : 0 < k) (h3 : jOn s m (S.getD (k - 1) (0, 0)).1 = true) : jVm s S k (c, T) m = (c, aU T k m (T (k - 1) m)) := by
  unfold jVm
  rw [if_pos (by rw [h1, h3]; simp [h2])]
theorem jVm_f {s : jN} {S : List (Nat × Nat)} {k m c : Nat} {T : Nat → Nat → Nat} (h : s.2.2.2.2 m = false ∨ k = 0 ∨ jOn s m (S.getD (k - 1) (0, 0)).1 = false) : jVm s S k (c, T) m = (c + 1, aU T k m c) := by
  unfold jVm
  rw [if_neg]
  intro z
  simp only [Bool.and_eq_true, decide_eq_true_eq] at z
  rcases h with h | h | h
  · rw [h] at z; cases z.1.1
  · omega
  · rw [h] at z; cases z.2
theorem jVm_cnt {s : jN} {S : List (Nat × Nat)} {k : Nat} (v : Nat × (Nat → Nat → Nat)) (m : Nat) : (jVm s S k v m).1 ≤ v.1 + 1 := by
  unfold jVm
  split <;> simp
theorem jV_fold {s : jN} {S : List (Nat × Nat)} {k : Nat} : ∀ (l : List Nat) (v : Nat × (Nat → Nat → Nat)), (l.foldl (jVm s S k) v).1 ≤ v.1 + l.length
  | [], v => by simp
  | m :: l, v => by
    have h1 := jV_fold (s := s) (S := S) (k := k) l (jVm s S k v m)
    have h2 := jVm_cnt (s := s) (S := S) (k := k) v m
    simp only [List.foldl_cons, List.length_cons]
    omega
theorem jVS_le {s : jN} {S : List (Nat × Nat)} (h6 : jSix s) : ∀ k, (jVS s S k).1 ≤ 6 * k
  | 0 => by simp [jVS]
  | k + 1 => by
    have h1 := jVS_le (S := S) h6 k
    have h2 := jV_fold (s := s) (S := S) (k := k) (jMem s (S.getD k (0, 0)).1) (jVS s S k)
    rw [jMem_len] at h2
    have h3 := h6 (S.getD k (0, 0)).1
    show (List.foldl (jVm s S k) (jVS s S k) (jMem s (S.getD k (0, 0)).1)).1 ≤ _
    omega
theorem getD_of {S : List (Nat × Nat)} {k : Nat} {q : Nat × Nat} (h : S[k]? = some q) : S.getD k (0, 0) = q := by rw [List.getD_eq_getElem?_getD, h]; rfl
set_option maxHeartbeats 1000000 in
theorem l_findSets {I : Nat → Nat → Int32} {L : Nat → Nat → Int64} {R : Nat → Nat → Option Nat} (hR : aRf R) {s : jN} (hs : nRep I s) (ho : jOk s) (h6 : jSix s) : ∀ (k i : Nat), i ≤ 31 → 31 - i = k → ∀ t : Nat, t ≤ 9999 → ∀ (D : List (Nat × Nat)) (I1 : Nat → Nat → Int32), sRep I1 s D → fsKeep I I1 → D.length ≤ i → D ++ jSets s (31 - i) t = jS s → aX mX5_findSets aE0 (sh0, I1, L, R) 13 [(0, .ref 16), (1, .int (nI t)), (2, .int (nI i))] [] 0 0 (fun r h' => r = none ∧ ∃ I', h' = (sh0, I', L, R) ∧ sRep I' s (jS s) ∧ fsKeep I I') := by
  intro k
  induction k using Nat.strongRecOn with
  | _ k ih =>
    intro i hi hk t ht D I1 hD hfs hDl hall
    have hn := ho.1
    have hs1 := nRep_fs hfs hs
    have hnl := jNext_le s (t + 1)
    have hsl := jSnd_le s t
    refine aX_iload_n dX5_findSets_13 rfl ?_
    refine aX_bipush (v := nI 31) dX5_findSets_14 (by decide) ?_
    refine nGe (tgt := 54) dX5_findSets_16 (by decide) (by omega) (by omega) (fun c1 => ?_) (fun c1 => ?_)
    · exact rV dX5_findSets_54 rfl (⟨rfl, I1, rfl, by rw [← hall, jSets_end (by omega), List.append_nil]; exact hD, hfs⟩)
    · refine aX_iload_n dX5_findSets_19 rfl ?_
      refine aX_sipush (v := nI 9999) dX5_findSets_20 (by decide) ?_
      refine nGe (tgt := 54) dX5_findSets_23 (by decide) (by omega) (by omega) (fun c2 => ?_) (fun c2 => ?_)
      · exact rV dX5_findSets_54 rfl (⟨rfl, I1, rfl, by rw [← hall, jSets_end (by omega), List.append_nil]; exact hD, hfs⟩)
      · refine aX_aload_n dX5_findSets_26 rfl ?_
        refine aX_iload_n dX5_findSets_27 rfl ?_
        refine cVp (As := [.int (nI (t))]) (st := []) (v := .int (nI (jNext s (t + 1)))) dX5_findSets_28 kX5_findSets_80 s16 aEok0 rfl rfl (Nat.le_of_ble_eq_true rfl) (c_tickAfter hR hs1 ho (a := t + 1) (by omega) (by exact (nI_pred t).symm)) ?_
        refine aX_istore_n (lv' := [(0, .ref 16), (1, .int (nI (t))), (2, .int (nI (i))), (3, .int (nI (jNext s (t + 1))))]) dX5_findSets_31 (by decide) rfl ?_
        refine aX_aload_n dX5_findSets_32 rfl ?_
        refine aX_iload_n dX5_findSets_33 rfl ?_
        refine cVp (As := [.int (nI (t))]) (st := []) (v := .int (nI (jSnd s t))) dX5_findSets_34 kX5_findSets_67 s16 aEok0 rfl rfl (Nat.le_of_ble_eq_true rfl) (c_soundingAt hR hs1 ho (by omega)) ?_
        refine nIf_le (tgt := 46) dX5_findSets_37 (by decide) (by omega) (fun c3 => ?_) (fun c3 => ?_)
        · refine aX_iload_n dX5_findSets_46 rfl ?_
          refine aX_istore_n (lv' := [(0, .ref 16), (1, .int (nI (jNext s (t + 1)))), (2, .int (nI (i))), (3, .int (nI (jNext s (t + 1))))]) dX5_findSets_47 (by decide) rfl ?_
          refine nInc (lv' := [(0, .ref 16), (1, .int (nI (jNext s (t + 1)))), (2, .int (nI (i + 1))), (3, .int (nI (jNext s (t + 1))))]) dX5_findSets_48 rfl rfl (by decide) rfl ?_
          refine aX_goto (tgt := 13) dX5_findSets_51 (by decide) ?_
          refine aX_lv (lv' := [(0, .ref 16), (1, .int (nI (jNext s (t + 1)))), (2, .int (nI (i + 1)))]) [0, 1, 2] rfl ?_
          exact ih (31 - (i + 1)) (by omega) (i + 1) (by omega) rfl (jNext s (t + 1)) hnl D I1 hD hfs (by omega) (by rw [← hall, show 31 - i = (31 - (i + 1)) + 1 by omega, jSets_no (by omega) (by omega)])
        · refine aX_aload_n dX5_findSets_40 rfl ?_
          refine aX_iload_n dX5_findSets_41 rfl ?_
          refine aX_iload_n dX5_findSets_42 rfl ?_
          refine cV (As := [.int (nI (t)), .int (nI (jNext s (t + 1)))]) (st := []) dX5_findSets_43 kX5_findSets_83 s16 aEok0 rfl rfl (Nat.le_of_ble_eq_true rfl) (c_appendSet hR hs1 ho h6 hD.1 (by omega) (by omega) (by omega)) (fun r h' hq => ?_)
          obtain ⟨rfl, I2, rfl, h5, hse, hkp⟩ := hq
          refine ⟨rfl, ?_⟩
          refine aX_iload_n dX5_findSets_46 rfl ?_
          refine aX_istore_n (lv' := [(0, .ref 16), (1, .int (nI (jNext s (t + 1)))), (2, .int (nI (i))), (3, .int (nI (jNext s (t + 1))))]) dX5_findSets_47 (by decide) rfl ?_
          refine nInc (lv' := [(0, .ref 16), (1, .int (nI (jNext s (t + 1)))), (2, .int (nI (i + 1))), (3, .int (nI (jNext s (t + 1))))]) dX5_findSets_48 rfl rfl (by decide) rfl ?_
          refine aX_goto (tgt := 13) dX5_findSets_51 (by decide) ?_
          refine aX_lv (lv' := [(0, .ref 16), (1, .int (nI (jNext s (t + 1)))), (2, .int (nI (i + 1)))]) [0, 1, 2] rfl ?_
          exact ih (31 - (i + 1)) (by omega) (i + 1) (by omega) rfl (jNext s (t + 1)) hnl (D ++ [(t, jNext s (t + 1))]) I2 (sRep_add h6 hkp h5 hse hD) (hfs.as hkp) (by simp; omega) (by rw [← hall, show 31 - i = (31 - (i + 1)) + 1 by omega, jSets_yes (by omega) (by omega)]; simp)

set_option maxHeartbeats 1000000 in
theorem c_findSets {I : Nat → Nat → Int32} {L : Nat → Nat → Int64} {R : Nat → Nat → Option Nat} (hR : aRf R) {s : jN} (hs : nRep I s) (ho : jOk s) (h6 : jSix s) : aM mX5_findSets [.ref 16] (sh0, I, L, R) (fun r h' => r = none ∧ ∃ I', h' = (sh0, I', L, R) ∧ sRep I' s (jS s) ∧ fsKeep I I') := by
  refine aM_of plX5_findSets (Nat.le_of_ble_eq_true rfl) ?_
  refine aX_aload_n dX5_findSets_0 rfl ?_
  refine aX_iconst (v := nI 0) dX5_findSets_1 (by decide) ?_
  refine pI dX5_findSets_2 lfX5_50 (fun _ _ _ hq => by cases hq; exact Or.inl rfl) s16 rfl ?_
  refine aX_aload_n dX5_findSets_5 rfl ?_
  refine aX_iconst (v := (-1)) dX5_findSets_6 (by decide) ?_
  refine cVp (As := [.int ((-1))]) (st := []) (v := .int (nI (jNext s 0))) dX5_findSets_7 kX5_findSets_80 s16 aEok0 rfl rfl (Nat.le_of_ble_eq_true rfl) (c_tickAfter hR (nRep_fs (I := I) (fun q j a b => aU_n a) hs) ho (a := 0) (by omega) rfl) ?_
  refine aX_istore_n (lv' := [(0, .ref 16), (1, .int (nI (jNext s 0)))]) dX5_findSets_10 (by decide) rfl ?_
  refine aX_iconst (v := nI 0) dX5_findSets_11 (by decide) ?_
  refine aX_istore_n (lv' := [(0, .ref 16), (1, .int (nI (jNext s 0))), (2, .int (nI (0)))]) dX5_findSets_12 (by decide) rfl ?_
  exact l_findSets hR hs ho h6 _ 0 (Nat.zero_le _) rfl (jNext s 0) (jNext_le s 0) [] _ ⟨aU_s, fun k q hq => by simp at hq⟩ (fun q j a b => aU_n a) (Nat.le_refl _) rfl

set_option maxHeartbeats 1000000 in
theorem c_isIn {I : Nat → Nat → Int32} {L : Nat → Nat → Int64} {R : Nat → Nat → Option Nat} (hR : aRf R) {s : jN} (hs : nRep I s) (ho : jOk s) {S : List (Nat × Nat)} {k i : Nat} {q : Nat × Nat} (hS : sRep I s S) (hq : S[k]? = some q) (hk : k < 31) (hi : i < s.1) (hb : q.1 < 2 ^ 30) : aMp mX5_isIn [.ref 16, .int (nI k), .int (nI i)] (sh0, I, L, R) (.int (bI (jOn s i q.1))) := by
  refine aM_of plX5_isIn (Nat.le_of_ble_eq_true rfl) ?_
  refine aX_aload_n dX5_isIn_0 rfl ?_
  refine aX_aload_n dX5_isIn_1 rfl ?_
  refine aX_get dX5_isIn_2 lfX5_25 s16 (f16_6 hR) ?_
  refine aX_iload_n dX5_isIn_5 rfl ?_
  refine nIald (v := nI (q.1)) dX5_isIn_6 s21 (by omega) (by decide) ((hS.2 k q hq).1) ?_
  refine aX_iload_n dX5_isIn_7 rfl ?_
  refine cVp (As := [.int (nI (q.1)), .int (nI (i))]) (st := []) (v := .int (bI (jOn s i q.1))) dX5_isIn_8 kX5_isIn_64 s16 aEok0 rfl rfl (Nat.le_of_ble_eq_true rfl) (c_isAt hR hs ho hi (by omega)) ?_
  exact rZ dX5_isIn_11 rfl (bI_01 _) (⟨rfl, rfl⟩)

set_option maxHeartbeats 1000000 in
theorem c_variableOf {I : Nat → Nat → Int32} {L : Nat → Nat → Int64} {R : Nat → Nat → Option Nat} (hR : aRf R) {k i : Nat} (hk : k < 31) (hi : i < 16) : aMp mX5_variableOf [.ref 16, .int (nI k), .int (nI i)] (sh0, I, L, R) (.int (I 26 (k * 16 + i))) := by
  refine aM_of plX5_variableOf (Nat.le_of_ble_eq_true rfl) ?_
  refine aX_aload_n dX5_variableOf_0 rfl ?_
  refine aX_get dX5_variableOf_1 lfX5_40 s16 (f16_12 hR) ?_
  refine aX_iload_n dX5_variableOf_4 rfl ?_
  refine aX_bipush (v := nI 16) dX5_variableOf_5 (by decide) ?_
  refine nMul dX5_variableOf_7 ?_
  refine aX_iload_n dX5_variableOf_8 rfl ?_
  refine nAdd dX5_variableOf_9 ?_
  refine nIald (v := I 26 ((k * 16) + i)) dX5_variableOf_10 s26 (by omega) (by decide) (rfl) ?_
  exact rI dX5_variableOf_11 rfl (⟨rfl, rfl⟩)

set_option maxHeartbeats 1000000 in
theorem l_numberVariables1 {I : Nat → Nat → Int32} {L : Nat → Nat → Int64} {R : Nat → Nat → Option Nat} (hR : aRf R) {s : jN} (hs : nRep I s) (ho : jOk s) (h6 : jSix s) {S : List (Nat × Nat)} (hS : sRep I s S) (hSl : S.length ≤ 31) (hSb : ∀ (k : Nat) (q : Nat × Nat), S[k]? = some q → q.1 < 2 ^ 30) {k : Nat} {q : Nat × Nat} (hq : S[k]? = some q) {Q : Option Value → aH → Prop} (kk : ∀ (c : Nat) (T : Nat → Nat → Nat) (I1 : Nat → Nat → Int32), jVS s S (k + 1) = (c, T) → vIn I1 s S k (jSnd s q.1) c T → nvKeep I I1 → c ≤ 6 * k + jSnd s q.1 → aX mX5_numberVariables aE0 (sh0, I1, L, R) 116 [(0, .ref 16), (1, .int (nI k)), (2, .int (nI (jSnd s q.1)))] [] 0 0 Q) : ∀ (k9 i : Nat), i ≤ jSnd s q.1 → jSnd s q.1 - i = k9 → ∀ (c : Nat) (T : Nat → Nat → Nat) (I1 : Nat → Nat → Int32), ((jMem s q.1).take i).foldl (jVm s S k) (jVS s S k) = (c, T) → vIn I1 s S k i c T → nvKeep I I1 → aX mX5_numberVariables aE0 (sh0, I1, L, R) 17 [(0, .ref 16), (1, .int (nI k)), (2, .int (nI i))] [] 0 0 Q := by
  intro k9
  induction k9 using Nat.strongRecOn with
  | _ k9 ih =>
    intro i hi hk9 c T I1 hf hin hkp
    have hn := ho.1
    have hs1 := nRep_nv hkp hs
    have hS1 := sRep_nv hkp hS
    have hkl : k < S.length := (List.getElem?_eq_some_iff.mp hq).1
    have hsl := jSnd_le s q.1
    have hc : c ≤ 6 * k + jSnd s q.1 := by
      have h1 := jV_fold (s := s) (S := S) (k := k) ((jMem s q.1).take i) (jVS s S k)
      have h2 := jVS_le (S := S) h6 k
      rw [hf, List.length_take] at h1
      have h3 : (c, T).1 = c := rfl
      omega
    refine aX_iload_n dX5_numberVariables_17 rfl ?_
    refine aX_aload_n dX5_numberVariables_18 rfl ?_
    refine aX_get dX5_numberVariables_19 lfX5_34 s16 (f16_9 hR) ?_
    refine aX_iload_n dX5_numberVariables_22 rfl ?_
    refine nIald (v := nI (jSnd s q.1)) dX5_numberVariables_23 s24 (by omega) (by decide) ((hS1.2 k q hq).2.2.2.1) ?_
    refine nGe (tgt := 116) dX5_numberVariables_24 (by decide) (by omega) (by omega) (fun c1 => ?_) (fun c1 => ?_)
    · obtain rfl : i = jSnd s q.1 := by omega
      exact kk c T I1 (by rw [← hf, List.take_of_length_le (by rw [jMem_len]; omega), jVS, getD_of hq]) hin hkp hc
    · obtain ⟨m, hm⟩ : ∃ m, (jMem s q.1)[i]? = some m := ⟨_, List.getElem?_eq_getElem (by rw [jMem_len]; exact c1)⟩
      have hml := (jMem_lt hm).1
      have hij := jMem_jlt h6 hm
      refine aX_aload_n dX5_numberVariables_27 rfl ?_
      refine aX_get dX5_numberVariables_28 lfX5_37 s16 (f16_10 hR) ?_
      refine aX_iload_n dX5_numberVariables_31 rfl ?_
      refine aX_bipush (v := nI 6) dX5_numberVariables_32 (by decide) ?_
      refine nMul dX5_numberVariables_34 ?_
      refine aX_iload_n dX5_numberVariables_35 rfl ?_
      refine nAdd dX5_numberVariables_36 ?_
      refine nIald (v := nI (m)) dX5_numberVariables_37 s25 (by omega) (by decide) ((hS1.2 k q hq).2.2.2.2 i m hm) ?_
      refine aX_istore_n (lv' := [(0, .ref 16), (1, .int (nI (k))), (2, .int (nI (i))), (3, .int (nI (m)))]) dX5_numberVariables_38 (by decide) rfl ?_
      refine aX_aload_n dX5_numberVariables_39 rfl ?_
      refine aX_get dX5_numberVariables_40 lfX5_21 s16 (f16_4 hR) ?_
      refine aX_iload_n dX5_numberVariables_43 rfl ?_
      refine nZald (v := bI (s.2.2.2.2 m)) dX5_numberVariables_44 s20 (by omega) (by decide) ((hs1.2 m hml).2.2.2) ?_
      refine bEq (tgt := 85) dX5_numberVariables_45 (by decide) (fun c2 => ?_) (fun c2 => ?_)
      · refine aX_aload_n dX5_numberVariables_85 rfl ?_
        refine aX_get dX5_numberVariables_86 lfX5_40 s16 (f16_12 hR) ?_
        refine aX_iload_n dX5_numberVariables_89 rfl ?_
        refine aX_bipush (v := nI 16) dX5_numberVariables_90 (by decide) ?_
        refine nMul dX5_numberVariables_92 ?_
        refine aX_iload_n dX5_numberVariables_93 rfl ?_
        refine nAdd dX5_numberVariables_94 ?_
        refine aX_aload_n dX5_numberVariables_95 rfl ?_
        refine aX_get (v := .int (nI (c))) dX5_numberVariables_96 lfX5_77 s16 (congrArg Value.int (hin.1)) ?_
        refine nIast dX5_numberVariables_99 s26 (by omega) (by decide) ?_
        refine aX_aload_n dX5_numberVariables_100 rfl ?_
        refine aX_dup dX5_numberVariables_101 rfl ?_
        refine aX_get (v := .int (nI (c))) dX5_numberVariables_102 lfX5_77 s16 (congrArg Value.int ((show (aU I1 26 ((k * 16) + m) (nI (c))) 16 11 = I1 16 11 from congrFun (aU_o (by decide)) _).trans hin.1)) ?_
        refine aX_iconst (v := nI 1) dX5_numberVariables_105 (by decide) ?_
        refine nAdd dX5_numberVariables_106 ?_
        refine pI dX5_numberVariables_107 lfX5_77 (fun _ _ _ hq => by cases hq; exact Or.inl rfl) s16 rfl ?_
        refine nInc (lv' := [(0, .ref 16), (1, .int (nI (k))), (2, .int (nI (i + 1))), (3, .int (nI (m)))]) dX5_numberVariables_110 rfl rfl (by decide) rfl ?_
        refine aX_goto (tgt := 17) dX5_numberVariables_113 (by decide) ?_
        refine aX_lv (lv' := [(0, .ref 16), (1, .int (nI k)), (2, .int (nI (i + 1)))]) [0, 1, 2] rfl ?_
        exact ih (jSnd s q.1 - (i + 1)) (by omega) (i + 1) (by omega) rfl (c + 1) (aU T k m c) _ (by rw [jV_step hf hm, jVm_f (by first | exact Or.inl (by assumption) | exact Or.inr (Or.inl (by omega)) | exact Or.inr (Or.inr (by rw [hgd]; assumption)))]) (vIn_step hn hin hq hm aU_s (by rw [aU_n (by omega), aU_s]) (fun j hj => by rw [aU_n (by omega), aU_n (by omega)])) (fun a b h1 h2 => by rw [aU_n h1, aU_n (by omega)]; exact hkp a b h1 h2)
      · refine aX_iload_n dX5_numberVariables_48 rfl ?_
        refine nIf_le (tgt := 85) dX5_numberVariables_49 (by decide) (by omega) (fun c3 => ?_) (fun c3 => ?_)
        · refine aX_aload_n dX5_numberVariables_85 rfl ?_
          refine aX_get dX5_numberVariables_86 lfX5_40 s16 (f16_12 hR) ?_
          refine aX_iload_n dX5_numberVariables_89 rfl ?_
          refine aX_bipush (v := nI 16) dX5_numberVariables_90 (by decide) ?_
          refine nMul dX5_numberVariables_92 ?_
          refine aX_iload_n dX5_numberVariables_93 rfl ?_
          refine nAdd dX5_numberVariables_94 ?_
          refine aX_aload_n dX5_numberVariables_95 rfl ?_
          refine aX_get (v := .int (nI (c))) dX5_numberVariables_96 lfX5_77 s16 (congrArg Value.int (hin.1)) ?_
          refine nIast dX5_numberVariables_99 s26 (by omega) (by decide) ?_
          refine aX_aload_n dX5_numberVariables_100 rfl ?_
          refine aX_dup dX5_numberVariables_101 rfl ?_
          refine aX_get (v := .int (nI (c))) dX5_numberVariables_102 lfX5_77 s16 (congrArg Value.int ((show (aU I1 26 ((k * 16) + m) (nI (c))) 16 11 = I1 16 11 from congrFun (aU_o (by decide)) _).trans hin.1)) ?_
          refine aX_iconst (v := nI 1) dX5_numberVariables_105 (by decide) ?_
          refine nAdd dX5_numberVariables_106 ?_
          refine pI dX5_numberVariables_107 lfX5_77 (fun _ _ _ hq => by cases hq; exact Or.inl rfl) s16 rfl ?_
          refine nInc (lv' := [(0, .ref 16), (1, .int (nI (k))), (2, .int (nI (i + 1))), (3, .int (nI (m)))]) dX5_numberVariables_110 rfl rfl (by decide) rfl ?_
          refine aX_goto (tgt := 17) dX5_numberVariables_113 (by decide) ?_
          refine aX_lv (lv' := [(0, .ref 16), (1, .int (nI k)), (2, .int (nI (i + 1)))]) [0, 1, 2] rfl ?_
          exact ih (jSnd s q.1 - (i + 1)) (by omega) (i + 1) (by omega) rfl (c + 1) (aU T k m c) _ (by rw [jV_step hf hm, jVm_f (by first | exact Or.inl (by assumption) | exact Or.inr (Or.inl (by omega)) | exact Or.inr (Or.inr (by rw [hgd]; assumption)))]) (vIn_step hn hin hq hm aU_s (by rw [aU_n (by omega), aU_s]) (fun j hj => by rw [aU_n (by omega), aU_n (by omega)])) (fun a b h1 h2 => by rw [aU_n h1, aU_n (by omega)]; exact hkp a b h1 h2)
        · obtain ⟨q0, hq0⟩ : ∃ q0, S[k - 1]? = some q0 := ⟨_, List.getElem?_eq_getElem (by omega)⟩
          have hq0b := hSb (k - 1) q0 hq0
          have hgd := getD_of hq0
          have hprev : jOn s m q0.1 = true → I1 26 ((k - 1) * 16 + m) = nI (T (k - 1) m) := fun z => hin.2.1 (k - 1) q0 m (by omega) hq0 (jML_mem.mpr ⟨hml, z⟩)
          refine aX_aload_n dX5_numberVariables_52 rfl ?_
          refine aX_iload_n dX5_numberVariables_53 rfl ?_
          refine aX_iconst (v := nI 1) dX5_numberVariables_54 (by decide) ?_
          refine nSub dX5_numberVariables_55 (by omega) ?_
          refine aX_iload_n dX5_numberVariables_56 rfl ?_
          refine cVp (As := [.int (nI (k - 1)), .int (nI (m))]) (st := []) (v := .int (bI (jOn s m q0.1))) dX5_numberVariables_57 kX5_numberVariables_60 s16 aEok0 rfl rfl (Nat.le_of_ble_eq_true rfl) (c_isIn hR hs1 ho hS1 (q := q0) hq0 (by omega) hml (by omega)) ?_
          refine bEq (tgt := 85) dX5_numberVariables_60 (by decide) (fun c4 => ?_) (fun c4 => ?_)
          · refine aX_aload_n dX5_numberVariables_85 rfl ?_
            refine aX_get dX5_numberVariables_86 lfX5_40 s16 (f16_12 hR) ?_
            refine aX_iload_n dX5_numberVariables_89 rfl ?_
            refine aX_bipush (v := nI 16) dX5_numberVariables_90 (by decide) ?_
            refine nMul dX5_numberVariables_92 ?_
            refine aX_iload_n dX5_numberVariables_93 rfl ?_
            refine nAdd dX5_numberVariables_94 ?_
            refine aX_aload_n dX5_numberVariables_95 rfl ?_
            refine aX_get (v := .int (nI (c))) dX5_numberVariables_96 lfX5_77 s16 (congrArg Value.int (hin.1)) ?_
            refine nIast dX5_numberVariables_99 s26 (by omega) (by decide) ?_
            refine aX_aload_n dX5_numberVariables_100 rfl ?_
            refine aX_dup dX5_numberVariables_101 rfl ?_
            refine aX_get (v := .int (nI (c))) dX5_numberVariables_102 lfX5_77 s16 (congrArg Value.int ((show (aU I1 26 ((k * 16) + m) (nI (c))) 16 11 = I1 16 11 from congrFun (aU_o (by decide)) _).trans hin.1)) ?_
            refine aX_iconst (v := nI 1) dX5_numberVariables_105 (by decide) ?_
            refine nAdd dX5_numberVariables_106 ?_
            refine pI dX5_numberVariables_107 lfX5_77 (fun _ _ _ hq => by cases hq; exact Or.inl rfl) s16 rfl ?_
            refine nInc (lv' := [(0, .ref 16), (1, .int (nI (k))), (2, .int (nI (i + 1))), (3, .int (nI (m)))]) dX5_numberVariables_110 rfl rfl (by decide) rfl ?_
            refine aX_goto (tgt := 17) dX5_numberVariables_113 (by decide) ?_
            refine aX_lv (lv' := [(0, .ref 16), (1, .int (nI k)), (2, .int (nI (i + 1)))]) [0, 1, 2] rfl ?_
            exact ih (jSnd s q.1 - (i + 1)) (by omega) (i + 1) (by omega) rfl (c + 1) (aU T k m c) _ (by rw [jV_step hf hm, jVm_f (by first | exact Or.inl (by assumption) | exact Or.inr (Or.inl (by omega)) | exact Or.inr (Or.inr (by rw [hgd]; assumption)))]) (vIn_step hn hin hq hm aU_s (by rw [aU_n (by omega), aU_s]) (fun j hj => by rw [aU_n (by omega), aU_n (by omega)])) (fun a b h1 h2 => by rw [aU_n h1, aU_n (by omega)]; exact hkp a b h1 h2)
          · refine aX_aload_n dX5_numberVariables_63 rfl ?_
            refine aX_get dX5_numberVariables_64 lfX5_40 s16 (f16_12 hR) ?_
            refine aX_iload_n dX5_numberVariables_67 rfl ?_
            refine aX_bipush (v := nI 16) dX5_numberVariables_68 (by decide) ?_
            refine nMul dX5_numberVariables_70 ?_
            refine aX_iload_n dX5_numberVariables_71 rfl ?_
            refine nAdd dX5_numberVariables_72 ?_
            refine aX_aload_n dX5_numberVariables_73 rfl ?_
            refine aX_iload_n dX5_numberVariables_74 rfl ?_
            refine aX_iconst (v := nI 1) dX5_numberVariables_75 (by decide) ?_
            refine nSub dX5_numberVariables_76 (by omega) ?_
            refine aX_iload_n dX5_numberVariables_77 rfl ?_
            refine cVp (As := [.int (nI (k - 1)), .int (nI (m))]) (st := [.int (nI ((k * 16) + m)), .ref 26]) (v := .int (nI (T (k - 1) m))) dX5_numberVariables_78 kX5_numberVariables_96 s16 aEok0 rfl rfl (Nat.le_of_ble_eq_true rfl) (by have z := c_variableOf (L := L) hR (I := I1) (k := k - 1) (i := m) (by omega) (by omega); rw [hprev (by assumption)] at z; exact z) ?_
            refine nIast dX5_numberVariables_81 s26 (by omega) (by decide) ?_
            refine aX_goto (tgt := 110) dX5_numberVariables_82 (by decide) ?_
            refine nInc (lv' := [(0, .ref 16), (1, .int (nI (k))), (2, .int (nI (i + 1))), (3, .int (nI (m)))]) dX5_numberVariables_110 rfl rfl (by decide) rfl ?_
            refine aX_goto (tgt := 17) dX5_numberVariables_113 (by decide) ?_
            refine aX_lv (lv' := [(0, .ref 16), (1, .int (nI k)), (2, .int (nI (i + 1)))]) [0, 1, 2] rfl ?_
            exact ih (jSnd s q.1 - (i + 1)) (by omega) (i + 1) (by omega) rfl c (aU T k m (T (k - 1) m)) _ (by rw [jV_step hf hm, jVm_t (by assumption) (by omega) (by rw [hgd]; assumption)]) (vIn_step hn hin hq hm (by rw [aU_n (by omega)]; exact hin.1) aU_s (fun j hj => by rw [aU_n (by omega)])) (fun a b h1 h2 => by rw [aU_n (by omega)]; exact hkp a b h1 h2)

set_option maxHeartbeats 1000000 in
theorem l_numberVariables {I : Nat → Nat → Int32} {L : Nat → Nat → Int64} {R : Nat → Nat → Option Nat} (hR : aRf R) {s : jN} (hs : nRep I s) (ho : jOk s) (h6 : jSix s) {S : List (Nat × Nat)} (hS : sRep I s S) (hSl : S.length ≤ 31) (hSb : ∀ (k : Nat) (q : Nat × Nat), S[k]? = some q → q.1 < 2 ^ 30) : ∀ (k9 k : Nat), k ≤ S.length → S.length - k = k9 → ∀ (c : Nat) (T : Nat → Nat → Nat) (I1 : Nat → Nat → Int32), jVS s S k = (c, T) → vIn I1 s S k 0 c T → nvKeep I I1 → aX mX5_numberVariables aE0 (sh0, I1, L, R) 7 [(0, .ref 16), (1, .int (nI k))] [] 0 0 (fun r h' => r = none ∧ ∃ I', h' = (sh0, I', L, R) ∧ vRep I' s S ∧ nvKeep I I') := by
  intro k9
  induction k9 using Nat.strongRecOn with
  | _ k9 ih =>
    intro k hk hk9 c T I1 hf hin hkp
    have hn := ho.1
    have hS1 := sRep_nv hkp hS
    refine aX_iload_n dX5_numberVariables_7 rfl ?_
    refine aX_aload_n dX5_numberVariables_8 rfl ?_
    refine aX_get (v := .int (nI (S.length))) dX5_numberVariables_9 lfX5_50 s16 (congrArg Value.int (hS1.1)) ?_
    refine nGe (tgt := 122) dX5_numberVariables_12 (by decide) (by omega) (by omega) (fun c1 => ?_) (fun c1 => ?_)
    · exact rV dX5_numberVariables_122 rfl (⟨rfl, I1, rfl, ⟨by rw [show S.length = k by omega, hf]; exact hin.1, fun k' q m hq hm => by rw [show S.length = k by omega, hf]; exact hin.2.1 k' q m (by have := (List.getElem?_eq_some_iff.mp hq).1; omega) hq hm⟩, hkp⟩)
    · refine aX_iconst (v := nI 0) dX5_numberVariables_15 (by decide) ?_
      refine aX_istore_n (lv' := [(0, .ref 16), (1, .int (nI (k))), (2, .int (nI (0)))]) dX5_numberVariables_16 (by decide) rfl ?_
      obtain ⟨q, hq⟩ : ∃ q, S[k]? = some q := ⟨_, List.getElem?_eq_getElem c1⟩
      refine l_numberVariables1 hR hs ho h6 hS hSl hSb hq (fun c2 T2 I2 hj2 h2 hkp2 hc2 => ?_) _ 0 (Nat.zero_le _) rfl c T I1 (by rw [← hf]; rfl) hin hkp
      refine nInc (lv' := [(0, .ref 16), (1, .int (nI (k + 1))), (2, .int (nI (jSnd s q.1)))]) dX5_numberVariables_116 rfl rfl (by decide) rfl ?_
      refine aX_goto (tgt := 7) dX5_numberVariables_119 (by decide) ?_
      refine aX_lv (lv' := [(0, .ref 16), (1, .int (nI (k + 1)))]) [0, 1] rfl ?_
      exact ih (S.length - (k + 1)) (by omega) (k + 1) (by omega) rfl c2 T2 I2 hj2 ⟨h2.1, fun k' q' m hk' hq' hm => by
        rcases Nat.lt_or_ge k' k with z | z
        · exact h2.2.1 k' q' m z hq' hm
        · obtain rfl : k' = k := by omega
          cases hq.symm.trans hq'
          exact h2.2.2 q m hq (by rw [List.take_of_length_le (by rw [jMem_len]; exact Nat.le_refl _)]; exact hm), fun q' m _ hm => by simp at hm⟩ hkp2

set_option maxHeartbeats 1000000 in
theorem c_numberVariables {I : Nat → Nat → Int32} {L : Nat → Nat → Int64} {R : Nat → Nat → Option Nat} (hR : aRf R) {s : jN} (hs : nRep I s) (ho : jOk s) (h6 : jSix s) {S : List (Nat × Nat)} (hS : sRep I s S) (hSl : S.length ≤ 31) (hSb : ∀ (k : Nat) (q : Nat × Nat), S[k]? = some q → q.1 < 2 ^ 30) : aM mX5_numberVariables [.ref 16] (sh0, I, L, R) (fun r h' => r = none ∧ ∃ I', h' = (sh0, I', L, R) ∧ vRep I' s S ∧ nvKeep I I') := by
  refine aM_of plX5_numberVariables (Nat.le_of_ble_eq_true rfl) ?_
  refine aX_aload_n dX5_numberVariables_0 rfl ?_
  refine aX_iconst (v := nI 0) dX5_numberVariables_1 (by decide) ?_
  refine pI dX5_numberVariables_2 lfX5_77 (fun _ _ _ hq => by cases hq; exact Or.inl rfl) s16 rfl ?_
  refine aX_iconst (v := nI 0) dX5_numberVariables_5 (by decide) ?_
  refine aX_istore_n (lv' := [(0, .ref 16), (1, .int (nI (0)))]) dX5_numberVariables_6 (by decide) rfl ?_
  exact l_numberVariables hR hs ho h6 hS hSl hSb _ 0 (Nat.zero_le _) rfl 0 (fun _ _ => 0) _ rfl ⟨aU_s, fun _ _ _ z => absurd z (Nat.not_lt_zero _), fun q m _ hm => by simp at hm⟩ (fun q j a b => aU_n a)

