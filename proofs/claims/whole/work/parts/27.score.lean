/-! a note more, a note bound -/
def jPush (s : jN) (a b c : Nat) : jN := (s.1 + 1, va_up s.2.1 s.1 a, va_up s.2.2.1 s.1 b, va_up s.2.2.2.1 s.1 c, va_up s.2.2.2.2 s.1 false)
def jBind (s : jN) (i : Nat) (b : Bool) : jN := (s.1, s.2.1, s.2.2.1, s.2.2.2.1, va_up s.2.2.2.2 i b)
theorem up_s {α : Type} {f : Nat → α} {k : Nat} {v : α} : va_up f k v k = v := by simp [va_up]
theorem up_n {α : Type} {f : Nat → α} {k j : Nat} {v : α} (h : j ≠ k) : va_up f k v j = f j := by simp [va_up, h]
theorem nRep_push {I : Nat → Nat → Int32} {s : jN} {a b c : Nat} (hs : nRep I s) : nRep (aU (aU (aU (aU (aU I 17 s.1 (nI a)) 18 s.1 (nI b)) 19 s.1 (nI c)) 20 s.1 (bI false)) 16 0 (nI (s.1 + 1))) (jPush s a b c) := by
  refine ⟨aU_s, fun i hi => ?_⟩
  have hi : i < s.1 + 1 := hi
  show _ = nI (va_up s.2.1 s.1 a i) ∧ _ = nI (va_up s.2.2.1 s.1 b i) ∧ _ = nI (va_up s.2.2.2.1 s.1 c i) ∧ _ = bI (va_up s.2.2.2.2 s.1 false i)
  by_cases e : i = s.1
  · subst e
    rw [up_s, up_s, up_s, up_s]
    refine ⟨?_, ?_, ?_, ?_⟩
    · rw [aU_n (by omega), aU_n (by omega), aU_n (by omega), aU_n (by omega), aU_s]
    · rw [aU_n (by omega), aU_n (by omega), aU_n (by omega), aU_s]
    · rw [aU_n (by omega), aU_n (by omega), aU_s]
    · rw [aU_n (by omega), aU_s]
  · rw [up_n e, up_n e, up_n e, up_n e]
    obtain ⟨h1, h2, h3, h4⟩ := hs.2 i (by omega)
    refine ⟨?_, ?_, ?_, ?_⟩
    · rw [aU_n (by omega), aU_n (by omega), aU_n (by omega), aU_n (by omega), aU_n (by omega)]; exact h1
    · rw [aU_n (by omega), aU_n (by omega), aU_n (by omega), aU_n (by omega), aU_n (by omega)]; exact h2
    · rw [aU_n (by omega), aU_n (by omega), aU_n (by omega), aU_n (by omega), aU_n (by omega)]; exact h3
    · rw [aU_n (by omega), aU_n (by omega), aU_n (by omega), aU_n (by omega), aU_n (by omega)]; exact h4
theorem nRep_bind {I : Nat → Nat → Int32} {s : jN} {i : Nat} {b : Bool} (hs : nRep I s) : nRep (aU I 20 i (bI b)) (jBind s i b) := by
  refine ⟨by rw [aU_n (by omega)]; exact hs.1, fun j hj => ?_⟩
  obtain ⟨h1, h2, h3, h4⟩ := hs.2 j hj
  refine ⟨?_, ?_, ?_, ?_⟩
  · rw [aU_n (by omega)]; exact h1
  · rw [aU_n (by omega)]; exact h2
  · rw [aU_n (by omega)]; exact h3
  · show _ = bI (va_up s.2.2.2.2 i b j)
    by_cases e : j = i
    · subst e; rw [up_s, aU_s]
    · rw [up_n e, aU_n (by omega)]; exact h4
/-- a binding changes no set -/
theorem jBind_on {s : jN} {i : Nat} {b : Bool} : jOn (jBind s i b) = jOn s := rfl
theorem jBind_next {s : jN} {i : Nat} {b : Bool} (a : Nat) : jNext (jBind s i b) a = jNext s a := by
  have key : ∀ n, jNx (jBind s i b) a n = jNx s a n := by
    intro n
    induction n with
    | zero => rfl
    | succ n ih => unfold jNx; rw [ih]; rfl
  exact key s.1
theorem jBind_sets {s : jN} {i : Nat} {b : Bool} : jS (jBind s i b) = jS s := by
  have key : ∀ f t, jSets (jBind s i b) f t = jSets s f t := by
    intro f
    induction f with
    | zero => intro t; rfl
    | succ f ih =>
      intro t
      unfold jSets
      rw [jBind_next, ih]
      rfl
  unfold jS
  rw [jBind_next, key]
theorem jBind_mem {s : jN} {i : Nat} {b : Bool} (t : Nat) : jMem (jBind s i b) t = jMem s t := by
  have key : ∀ n, jML (jBind s i b) t n = jML s t n := by
    intro n
    induction n with
    | zero => rfl
    | succ n ih => unfold jML; rw [ih]; rfl
  exact key s.1
theorem jBind_base {s : jN} {i : Nat} {b : Bool} (t : Nat) : jBase (jBind s i b) t = jBase s t := by
  have key : ∀ n, jBs (jBind s i b) t n = jBs s t n := by
    intro n
    induction n with
    | zero => rfl
    | succ n ih => unfold jBs; rw [ih]; rfl
  unfold jBase
  rw [show (jBind s i b).1 = s.1 from rfl, key]
theorem sRep_bind {I : Nat → Nat → Int32} {s : jN} {i : Nat} {b : Bool} (hs : sRep I s (jS s)) : sRep (aU I 20 i (bI b)) (jBind s i b) (jS (jBind s i b)) := by
  rw [jBind_sets]
  refine ⟨by rw [aU_n (by omega)]; exact hs.1, fun k q hq => ?_⟩
  obtain ⟨h1, h2, h3, h4, h5⟩ := hs.2 k q hq
  refine ⟨?_, ?_, ?_, ?_, fun j m hj => ?_⟩
  · rw [aU_n (by omega)]; exact h1
  · rw [aU_n (by omega)]; exact h2
  · rw [aU_n (by omega), jBind_base]; exact h3
  · rw [aU_n (by omega)]; exact h4
  · rw [jBind_mem] at hj; rw [aU_n (by omega)]; exact h5 j m hj
/-- nothing outside the score changes, nor the row of the common notes -/
def scKeep (I I' : Nat → Nat → Int32) : Prop := ∀ q j, ¬ (16 ≤ q ∧ q ≤ 26) → I' q j = I q j
set_option maxHeartbeats 1000000 in
theorem c_append {I : Nat → Nat → Int32} {L : Nat → Nat → Int64} {R : Nat → Nat → Option Nat} (hR : aRf R) {s : jN} (hc : cRep I s) {a b c : Nat} (h16 : s.1 < 16) (hok : jOk (jPush s a b c)) (h66 : jSix (jPush s a b c)) : aM mX5_append [.ref 16, .int (nI a), .int (nI b), .int (nI c)] (sh0, I, L, R) (fun r h' => r = some (.int (nI s.1)) ∧ ∃ I', h' = (sh0, I', L, R) ∧ cRep I' (jPush s a b c) ∧ scKeep I I') := by
  obtain ⟨hs, ho, h6, hS, hV⟩ := id hc
  have hn := ho.1
  have hSl := jS_len s
  refine aM_of plX5_append (Nat.le_of_ble_eq_true rfl) ?_
  refine aX_aload_n dX5_append_0 rfl ?_
  refine aX_get (v := .int (nI (s.1))) dX5_append_1 lfX5_46 s16 (congrArg Value.int (hs.1)) ?_
  refine aX_istore (lv' := [(0, .ref 16), (1, .int (nI (a))), (2, .int (nI (b))), (3, .int (nI (c))), (4, .int (nI (s.1)))]) dX5_append_4 (by decide) rfl ?_
  refine aX_aload_n dX5_append_6 rfl ?_
  refine aX_get dX5_append_7 lfX5_9 s16 (f16_1 hR) ?_
  refine aX_iload dX5_append_10 rfl ?_
  refine aX_iload_n dX5_append_12 rfl ?_
  refine nIast dX5_append_13 s17 (by omega) (by decide) ?_
  refine aX_aload_n dX5_append_14 rfl ?_
  refine aX_get dX5_append_15 lfX5_15 s16 (f16_2 hR) ?_
  refine aX_iload dX5_append_18 rfl ?_
  refine aX_iload_n dX5_append_20 rfl ?_
  refine nIast dX5_append_21 s18 (by omega) (by decide) ?_
  refine aX_aload_n dX5_append_22 rfl ?_
  refine aX_get dX5_append_23 lfX5_18 s16 (f16_3 hR) ?_
  refine aX_iload dX5_append_26 rfl ?_
  refine aX_iload_n dX5_append_28 rfl ?_
  refine nIast dX5_append_29 s19 (by omega) (by decide) ?_
  refine aX_aload_n dX5_append_30 rfl ?_
  refine aX_get dX5_append_31 lfX5_21 s16 (f16_4 hR) ?_
  refine aX_iload dX5_append_34 rfl ?_
  refine aX_iconst (v := nI 0) dX5_append_36 (by decide) ?_
  refine nZast (b := false) dX5_append_37 s20 (by omega) (by decide) ?_
  refine aX_aload_n dX5_append_38 rfl ?_
  refine aX_iload dX5_append_39 rfl ?_
  refine aX_iconst (v := nI 1) dX5_append_41 (by decide) ?_
  refine nAdd dX5_append_42 ?_
  refine pI dX5_append_43 lfX5_46 (fun _ _ _ hq => by cases hq; exact Or.inl rfl) s16 rfl ?_
  refine aX_aload_n dX5_append_46 rfl ?_
  refine cV (As := []) (st := []) dX5_append_47 kX5_append_71 s16 aEok0 rfl rfl (Nat.le_of_ble_eq_true rfl) (c_findSets hR (nRep_push hs) hok h66) (fun r h' hq => ?_)
  obtain ⟨rfl, I2, rfl, hS2, hfs⟩ := hq
  refine ⟨rfl, ?_⟩
  have hs2 := nRep_fs hfs (nRep_push hs)
  refine aX_aload_n dX5_append_50 rfl ?_
  refine cV (As := []) (st := []) dX5_append_51 kX5_append_74 s16 aEok0 rfl rfl (Nat.le_of_ble_eq_true rfl) (c_numberVariables hR hs2 hok h66 hS2 (jS_len _) (fun k q hq => by have := jS_in hq; omega)) (fun r h' hq => ?_)
  obtain ⟨rfl, I3, rfl, hV3, hnv⟩ := hq
  refine ⟨rfl, ?_⟩
  refine aX_iload dX5_append_54 rfl ?_
  exact rI dX5_append_56 rfl (⟨rfl, I3, rfl, ⟨nRep_nv hnv hs2, hok, h66, sRep_nv hnv hS2, hV3⟩, fun q j h => by rw [hnv q j (by omega) (by omega), hfs q j (by omega) (by omega), aU_n (by omega), aU_n (by omega), aU_n (by omega), aU_n (by omega), aU_n (by omega)]⟩)

set_option maxHeartbeats 1000000 in
theorem c_tie {I : Nat → Nat → Int32} {L : Nat → Nat → Int64} {R : Nat → Nat → Option Nat} (hR : aRf R) {s : jN} (hc : cRep I s) {i : Nat} {b : Bool} (hi : i < s.1) : aM mX5_tie [.ref 16, .int (nI i), .int (bI b)] (sh0, I, L, R) (fun r h' => r = some (.int (bI (s.2.2.2.2 i))) ∧ ∃ I', h' = (sh0, I', L, R) ∧ cRep I' (jBind s i b) ∧ scKeep I I') := by
  obtain ⟨hs, ho, h6, hS, hV⟩ := id hc
  have hn := ho.1
  have hSl := jS_len s
  have hok : jOk (jBind s i b) := ho
  have h66 : jSix (jBind s i b) := h6
  refine aM_of plX5_tie (Nat.le_of_ble_eq_true rfl) ?_
  refine aX_aload_n dX5_tie_0 rfl ?_
  refine aX_get dX5_tie_1 lfX5_21 s16 (f16_4 hR) ?_
  refine aX_iload_n dX5_tie_4 rfl ?_
  refine nZald (v := bI (s.2.2.2.2 i)) dX5_tie_5 s20 (by omega) (by decide) ((hs.2 i (by omega)).2.2.2) ?_
  refine aX_istore_n (lv' := [(0, .ref 16), (1, .int (nI (i))), (2, .int (bI (b))), (3, .int (bI (s.2.2.2.2 i)))]) dX5_tie_6 (by decide) rfl ?_
  refine aX_aload_n dX5_tie_7 rfl ?_
  refine aX_get dX5_tie_8 lfX5_21 s16 (f16_4 hR) ?_
  refine aX_iload_n dX5_tie_11 rfl ?_
  refine aX_iload_n dX5_tie_12 rfl ?_
  refine nZast dX5_tie_13 s20 (by omega) (by decide) ?_
  refine aX_aload_n dX5_tie_14 rfl ?_
  refine cV (As := []) (st := []) dX5_tie_15 kX5_tie_74 s16 aEok0 rfl rfl (Nat.le_of_ble_eq_true rfl) (c_numberVariables hR (nRep_bind hs) hok h66 (sRep_bind hS) (jS_len _) (fun k q hq => by have := jS_in hq; omega)) (fun r h' hq => ?_)
  obtain ⟨rfl, I3, rfl, hV3, hnv⟩ := hq
  refine ⟨rfl, ?_⟩
  refine aX_iload_n dX5_tie_18 rfl ?_
  exact rZ dX5_tie_19 rfl (bI_01 _) (⟨rfl, I3, rfl, ⟨nRep_nv hnv (nRep_bind hs), hok, h66, sRep_nv hnv (sRep_bind hS), hV3⟩, fun q j h => by rw [hnv q j (by omega) (by omega), aU_n (by omega)]⟩)

