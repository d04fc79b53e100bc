def jBv (b : Option Nat) : Int32 := match b with
  | none => -1
  | some x => nI x
/-- all but the set's own places stays -/
def asKeep (I I' : Nat → Nat → Int32) (k : Nat) : Prop := ∀ q j, ¬ (q = 16 ∧ j = 5) → ¬ ((q = 21 ∨ q = 22 ∨ q = 23 ∨ q = 24) ∧ j = k) → ¬ (q = 25 ∧ k * 6 ≤ j ∧ j < k * 6 + 6) → I' q j = I q j
theorem nRep_as {I I' : Nat → Nat → Int32} {s : jN} {k : Nat} (h : asKeep I I' k) (hs : nRep I s) : nRep I' s := by
  refine ⟨?_, fun i hi => ?_⟩
  · rw [h 16 0 (by omega) (by omega) (by omega)]; exact hs.1
  · rw [h 17 i (by omega) (by omega) (by omega), h 18 i (by omega) (by omega) (by omega), h 19 i (by omega) (by omega) (by omega), h 20 i (by omega) (by omega) (by omega)]
    exact hs.2 i hi
/-- while the members are listed -/
def asIn (I I' : Nat → Nat → Int32) (s : jN) (k b i : Nat) : Prop := (∀ q j, ¬ (q = 25 ∧ k * 6 ≤ j ∧ j < k * 6 + 6) → I' q j = I q j) ∧ ∀ j m, (jML s b i)[j]? = some m → I' 25 (k * 6 + j) = nI m
theorem asIn_rep {I I' : Nat → Nat → Int32} {s : jN} {k b i : Nat} (h : asIn I I' s k b i) (hs : nRep I s) : nRep I' s := nRep_as (k := k) (fun q j h1 h2 h3 => h.1 q j h3) hs
theorem asIn_f {I I' : Nat → Nat → Int32} {s : jN} {k b i : Nat} (h : asIn I I' s k b i) (ho : jOn s i b = false) : asIn I I' s k b (i + 1) := ⟨h.1, fun j m hj => h.2 j m (by rw [jML_f ho] at hj; exact hj)⟩
theorem asIn_t {I I' : Nat → Nat → Int32} {s : jN} {k b i c : Nat} (h : asIn I I' s k b i) (ho : jOn s i b = true) (hc : c = jCnt (fun i => jOn s i b) i) (h6 : c < 6) : asIn I (aU I' 25 (k * 6 + c) (nI i)) s k b (i + 1) := by
  refine ⟨fun q j hq => ?_, fun j m hj => ?_⟩
  · rw [aU_n (by omega)]; exact h.1 q j hq
  · rw [jML_t ho] at hj
    have hl := jML_len s b i
    by_cases e : j < (jML s b i).length
    · rw [List.getElem?_append_left e] at hj
      rw [aU_n (by omega)]
      exact h.2 j m hj
    · rw [List.getElem?_append_right (by omega)] at hj
      have hz : j - (jML s b i).length < 1 := (List.getElem?_eq_some_iff.mp hj).1
      rw [show j - (jML s b i).length = 0 by omega] at hj
      cases hj
      rw [show k * 6 + j = k * 6 + c by omega, aU_s]
set_option maxHeartbeats 1000000 in
theorem c_maxB {h : aH} {bo : Option Nat} (hb : ∀ x, bo = some x → x < 2 ^ 31) : aMp mJ9_max_7cf53 [.int (jBv bo), .int (nI 0)] h (.int (nI (bo.getD 0))) := by
  cases bo with
  | none =>
    refine aM_of plJ9_max_7cf53 (Nat.le_of_ble_eq_true rfl) ?_
    refine aX_iload_n dJ9_max_7cf53_0 rfl ?_
    refine aX_iload_n dJ9_max_7cf53_1 rfl ?_
    refine aX_icmp_lt (tgt := 9) dJ9_max_7cf53_2 (by decide) (fun c => ?_) (fun c => absurd (by decide) c)
    refine aX_iload_n dJ9_max_7cf53_9 rfl ?_
    exact rI dJ9_max_7cf53_10 rfl ⟨rfl, rfl⟩
  | some x =>
    have := c_max (h := h) (a := x) (b := 0) (hb x rfl) (by decide)
    rw [show max x 0 = x by omega] at this
    exact this
theorem asFin {I I1 : Nat → Nat → Int32} {L : Nat → Nat → Int64} {R : Nat → Nat → Option Nat} {s : jN} {k b e i c : Nat} {bo : Option Nat} (hin : asIn I I1 s k b i) (hend : jML s b i = jMem s b ∧ jBs s b i = jBs s b s.1 ∧ jCnt (fun i => jOn s i b) i = jSnd s b) (hc : c = jCnt (fun i => jOn s i b) i) (hbo : jBs s b i = bo) :
    (none : Option Value) = none ∧ ∃ I', (sh0, (aU (aU (aU (aU (aU I1 21 k (nI b)) 22 k (nI e)) 24 k (nI c)) 23 k (nI (bo.getD 0))) 16 5 (nI (k + 1))), L, R) = (sh0, I', L, R) ∧ I' 16 5 = nI (k + 1) ∧ seRep I' s k (b, e) ∧ asKeep I I' k := by
  refine ⟨rfl, _, rfl, aU_s, ⟨?_, ?_, ?_, ?_, fun j m hj => ?_⟩, fun q j h1 h2 h3 => ?_⟩
  · rw [aU_n (by omega), aU_n (by omega), aU_n (by omega), aU_n (by omega), aU_s]
  · rw [aU_n (by omega), aU_n (by omega), aU_n (by omega), aU_s]
  · rw [aU_n (by omega), aU_s]; show _ = nI ((jBs s b s.1).getD 0); rw [← hend.2.1, hbo]
  · rw [aU_n (by omega), aU_n (by omega), aU_s]; show nI c = nI (jSnd s b); rw [hc, hend.2.2]
  · have hj : (jMem s b)[j]? = some m := hj
    rw [aU_n (by omega), aU_n (by omega), aU_n (by omega), aU_n (by omega), aU_n (by omega)]
    exact hin.2 j m (by rw [hend.1]; exact hj)
  · rw [aU_n h1, aU_n (by omega), aU_n (by omega), aU_n (by omega), aU_n (by omega)]
    exact hin.1 q j h3
set_option maxHeartbeats 1000000 in
theorem asEnd {I : Nat → Nat → Int32} {L : Nat → Nat → Int64} {R : Nat → Nat → Option Nat} (hR : aRf R) {I1 : Nat → Nat → Int32} {s : jN} {k b e i c : Nat} {bo : Option Nat} (hs : nRep I s) (ho : jOk s) (h6 : jSix s) (hkk : k < 31) (hin : asIn I I1 s k b i) (hend : jML s b i = jMem s b ∧ jBs s b i = jBs s b s.1 ∧ jCnt (fun i => jOn s i b) i = jSnd s b) (hc : c = jCnt (fun i => jOn s i b) i) (hbo : jBs s b i = bo) : aX mX5_appendSet aE0 (sh0, I1, L, R) 94 [(0, .ref 16), (1, .int (nI b)), (2, .int (nI e)), (3, .int (nI k)), (4, .int (nI c)), (5, .int (jBv bo)), (6, .int (nI i))] [] 0 0 (fun r h' => r = none ∧ ∃ I', h' = (sh0, I', L, R) ∧ I' 16 5 = nI (k + 1) ∧ seRep I' s k (b, e) ∧ asKeep I I' k) := by
  have hn := ho.1
  have hbl : ∀ x, bo = some x → x < 2 ^ 31 := fun x hx => by rw [← hbo, hend.2.1] at hx; have := (jBs_lt hx).1; omega
  refine aX_aload_n dX5_appendSet_94 rfl ?_
  refine aX_get dX5_appendSet_95 lfX5_25 s16 (f16_6 hR) ?_
  refine aX_iload_n dX5_appendSet_98 rfl ?_
  refine aX_iload_n dX5_appendSet_99 rfl ?_
  refine nIast dX5_appendSet_100 s21 (by omega) (by decide) ?_
  refine aX_aload_n dX5_appendSet_101 rfl ?_
  refine aX_get dX5_appendSet_102 lfX5_28 s16 (f16_7 hR) ?_
  refine aX_iload_n dX5_appendSet_105 rfl ?_
  refine aX_iload_n dX5_appendSet_106 rfl ?_
  refine nIast dX5_appendSet_107 s22 (by omega) (by decide) ?_
  refine aX_aload_n dX5_appendSet_108 rfl ?_
  refine aX_get dX5_appendSet_109 lfX5_34 s16 (f16_9 hR) ?_
  refine aX_iload_n dX5_appendSet_112 rfl ?_
  refine aX_iload dX5_appendSet_113 rfl ?_
  refine nIast dX5_appendSet_115 s24 (by omega) (by decide) ?_
  refine aX_aload_n dX5_appendSet_116 rfl ?_
  refine aX_get dX5_appendSet_117 lfX5_31 s16 (f16_8 hR) ?_
  refine aX_iload_n dX5_appendSet_120 rfl ?_
  refine aX_iload dX5_appendSet_121 rfl ?_
  refine aX_iconst (v := nI 0) dX5_appendSet_123 (by decide) ?_
  refine cSp (As := [.int (jBv bo), .int (nI (0))]) (st := [.int (nI (k)), .ref 23]) (v := .int (nI (bo.getD 0))) dX5_appendSet_124 kX5_appendSet_93 aEok0 rfl rfl (Nat.le_of_ble_eq_true rfl) (c_maxB (bo := bo) (by exact hbl)) ?_
  refine nIast dX5_appendSet_127 s23 (by omega) (by decide) ?_
  refine aX_aload_n dX5_appendSet_128 rfl ?_
  refine aX_iload_n dX5_appendSet_129 rfl ?_
  refine aX_iconst (v := nI 1) dX5_appendSet_130 (by decide) ?_
  refine nAdd dX5_appendSet_131 ?_
  refine pI dX5_appendSet_132 lfX5_50 (fun _ _ _ hq => by cases hq; exact Or.inl rfl) s16 rfl ?_
  exact rV dX5_appendSet_135 rfl (asFin hin hend hc hbo)

set_option maxHeartbeats 1000000 in
theorem l_appendSet {I : Nat → Nat → Int32} {L : Nat → Nat → Int64} {R : Nat → Nat → Option Nat} (hR : aRf R) {s : jN} {k b e : Nat} (hs : nRep I s) (ho : jOk s) (h6 : jSix s) (hkk : k < 31) (hb : b < 2 ^ 30) (he : e < 2 ^ 30) : ∀ (k9 i : Nat), i ≤ s.1 → s.1 - i = k9 → ∀ c : Nat, c = jCnt (fun i => jOn s i b) i → ∀ bo : Option Nat, jBs s b i = bo → ∀ I1 : Nat → Nat → Int32, asIn I I1 s k b i → aX mX5_appendSet aE0 (sh0, I1, L, R) 14 [(0, .ref 16), (1, .int (nI b)), (2, .int (nI e)), (3, .int (nI k)), (4, .int (nI (c))), (5, .int (jBv (bo))), (6, .int (nI (i)))] [] 0 0 (fun r h' => r = none ∧ ∃ I', h' = (sh0, I', L, R) ∧ I' 16 5 = nI (k + 1) ∧ seRep I' s k (b, e) ∧ asKeep I I' k) := by
  intro k9
  induction k9 using Nat.strongRecOn with
  | _ k9 ih =>
    intro i hi hk9 c hc bo hbo I1 hin
    have hn := ho.1
    have hs1 := asIn_rep hin hs
    have hcl := jCnt_le (fun i => jOn s i b) i
    have hc6 : jCnt (fun i => jOn s i b) i ≤ 6 := Nat.le_trans (jCnt_mono _ hi) (h6 b)
    refine aX_iload dX5_appendSet_14 rfl ?_
    refine aX_aload_n dX5_appendSet_16 rfl ?_
    refine aX_get (v := .int (nI (s.1))) dX5_appendSet_17 lfX5_46 s16 (congrArg Value.int (hs1.1)) ?_
    refine nGe (tgt := 94) dX5_appendSet_20 (by decide) (by omega) (by omega) (fun c1 => ?_) (fun c1 => ?_)
    · have hend := jML_end (s := s) (t := b) (i := i) hi (Or.inl (by omega))
      exact asEnd hR hs ho h6 hkk hin hend hc hbo
    · have hb := ho.2 i c1
      refine aX_iload dX5_appendSet_23 rfl ?_
      refine aX_bipush (v := nI 6) dX5_appendSet_25 (by decide) ?_
      refine nGe (tgt := 94) dX5_appendSet_27 (by decide) (by omega) (by omega) (fun c2 => ?_) (fun c2 => ?_)
      · have hend := jML_end (s := s) (t := b) (i := i) hi (Or.inr ⟨h6, by omega⟩)
        exact asEnd hR hs ho h6 hkk hin hend hc hbo
      · refine aX_aload_n dX5_appendSet_30 rfl ?_
        refine aX_iload_n dX5_appendSet_31 rfl ?_
        refine aX_iload dX5_appendSet_32 rfl ?_
        refine cVp (As := [.int (nI (b)), .int (nI (i))]) (st := []) (v := .int (bI (jOn s i b))) dX5_appendSet_34 kX5_appendSet_64 s16 aEok0 rfl rfl (Nat.le_of_ble_eq_true rfl) (c_isAt hR hs1 ho (by omega) (by omega)) ?_
        refine bEq (tgt := 88) dX5_appendSet_37 (by decide) (fun c3 => ?_) (fun c3 => ?_)
        · refine nInc (lv' := [(0, .ref 16), (1, .int (nI (b))), (2, .int (nI (e))), (3, .int (nI (k))), (4, .int (nI (c))), (5, .int (jBv bo)), (6, .int (nI (i + 1)))]) dX5_appendSet_88 rfl rfl (by decide) rfl ?_
          refine aX_goto (tgt := 14) dX5_appendSet_91 (by decide) ?_
          exact ih (s.1 - (i + 1)) (by omega) (i + 1) (by omega) rfl c (by rw [jCnt_f (f := fun i => jOn s i b) (by assumption)]; exact hc) bo (by rw [jBs_f (by assumption)]; exact hbo) I1 (asIn_f hin (by assumption))
        · refine aX_aload_n dX5_appendSet_40 rfl ?_
          refine aX_get dX5_appendSet_41 lfX5_37 s16 (f16_10 hR) ?_
          refine aX_iload_n dX5_appendSet_44 rfl ?_
          refine aX_bipush (v := nI 6) dX5_appendSet_45 (by decide) ?_
          refine nMul dX5_appendSet_47 ?_
          refine aX_iload dX5_appendSet_48 rfl ?_
          refine nAdd dX5_appendSet_50 ?_
          refine aX_iload dX5_appendSet_51 rfl ?_
          refine nIast dX5_appendSet_53 s25 (by omega) (by decide) ?_
          refine nInc (lv' := [(0, .ref 16), (1, .int (nI (b))), (2, .int (nI (e))), (3, .int (nI (k))), (4, .int (nI (c + 1))), (5, .int (jBv bo)), (6, .int (nI (i)))]) dX5_appendSet_54 rfl rfl (by decide) rfl ?_
          cases bo with
          | none =>
            refine aX_iload dX5_appendSet_57 rfl ?_
            refine aX_if_lt (tgt := 79) dX5_appendSet_59 (by decide) (fun c4 => ?_) (fun c4 => ?_)
            · refine aX_iload dX5_appendSet_79 rfl ?_
              refine aX_goto (tgt := 86) dX5_appendSet_81 (by decide) ?_
              refine aX_istore (lv' := [(0, .ref 16), (1, .int (nI (b))), (2, .int (nI (e))), (3, .int (nI (k))), (4, .int (nI (c + 1))), (5, .int (nI (i))), (6, .int (nI (i)))]) dX5_appendSet_86 (by decide) rfl ?_
              refine nInc (lv' := [(0, .ref 16), (1, .int (nI (b))), (2, .int (nI (e))), (3, .int (nI (k))), (4, .int (nI (c + 1))), (5, .int (nI (i))), (6, .int (nI (i + 1)))]) dX5_appendSet_88 rfl rfl (by decide) rfl ?_
              refine aX_goto (tgt := 14) dX5_appendSet_91 (by decide) ?_
              exact ih (s.1 - (i + 1)) (by omega) (i + 1) (by omega) rfl (c + 1) (by rw [jCnt_t (f := fun i => jOn s i b) (by assumption), hc]) (some i) (jBs_t0 (by assumption) hbo) _ (asIn_t hin (by assumption) hc (by omega))
            · exact absurd (by decide) c4
          | some x =>
            have hx := jBs_lt hbo
            have hkx := ho.2 x (by omega)
            refine aX_iload dX5_appendSet_57 rfl ?_
            refine aX_if_lt (tgt := 79) dX5_appendSet_59 (by decide) (fun c5 => ?_) (fun c5 => ?_)
            · exact absurd c5 (nI_pos (by omega))
            · refine aX_aload_n dX5_appendSet_62 rfl ?_
              refine aX_get dX5_appendSet_63 lfX5_9 s16 (f16_1 hR) ?_
              refine aX_iload dX5_appendSet_66 rfl ?_
              refine nIald (v := nI (s.2.1 i)) dX5_appendSet_68 s17 (by omega) (by decide) ((show (aU I1 25 ((k * 6) + c) (nI (i))) 17 i = I1 17 i from congrFun (aU_o (by decide)) _).trans (hs1.2 i (by omega)).1) ?_
              refine aX_aload_n dX5_appendSet_69 rfl ?_
              refine aX_get dX5_appendSet_70 lfX5_9 s16 (f16_1 hR) ?_
              refine aX_iload dX5_appendSet_73 rfl ?_
              refine nIald (v := nI (s.2.1 x)) dX5_appendSet_75 s17 (by omega) (by decide) ((show (aU I1 25 ((k * 6) + c) (nI (i))) 17 x = I1 17 x from congrFun (aU_o (by decide)) _).trans (hs1.2 x (by omega)).1) ?_
              refine nGe (tgt := 84) dX5_appendSet_76 (by decide) (by omega) (by omega) (fun c6 => ?_) (fun c6 => ?_)
              · refine aX_iload dX5_appendSet_84 rfl ?_
                refine aX_istore (lv' := [(0, .ref 16), (1, .int (nI (b))), (2, .int (nI (e))), (3, .int (nI (k))), (4, .int (nI (c + 1))), (5, .int (nI (x))), (6, .int (nI (i)))]) dX5_appendSet_86 (by decide) rfl ?_
                refine nInc (lv' := [(0, .ref 16), (1, .int (nI (b))), (2, .int (nI (e))), (3, .int (nI (k))), (4, .int (nI (c + 1))), (5, .int (nI (x))), (6, .int (nI (i + 1)))]) dX5_appendSet_88 rfl rfl (by decide) rfl ?_
                refine aX_goto (tgt := 14) dX5_appendSet_91 (by decide) ?_
                exact ih (s.1 - (i + 1)) (by omega) (i + 1) (by omega) rfl (c + 1) (by rw [jCnt_t (f := fun i => jOn s i b) (by assumption), hc]) (some x) (jBs_t2 (by assumption) hbo c6) _ (asIn_t hin (by assumption) hc (by omega))
              · refine aX_iload dX5_appendSet_79 rfl ?_
                refine aX_goto (tgt := 86) dX5_appendSet_81 (by decide) ?_
                refine aX_istore (lv' := [(0, .ref 16), (1, .int (nI (b))), (2, .int (nI (e))), (3, .int (nI (k))), (4, .int (nI (c + 1))), (5, .int (nI (i))), (6, .int (nI (i)))]) dX5_appendSet_86 (by decide) rfl ?_
                refine nInc (lv' := [(0, .ref 16), (1, .int (nI (b))), (2, .int (nI (e))), (3, .int (nI (k))), (4, .int (nI (c + 1))), (5, .int (nI (i))), (6, .int (nI (i + 1)))]) dX5_appendSet_88 rfl rfl (by decide) rfl ?_
                refine aX_goto (tgt := 14) dX5_appendSet_91 (by decide) ?_
                exact ih (s.1 - (i + 1)) (by omega) (i + 1) (by omega) rfl (c + 1) (by rw [jCnt_t (f := fun i => jOn s i b) (by assumption), hc]) (some i) (jBs_t1 (by assumption) hbo c6) _ (asIn_t hin (by assumption) hc (by omega))

set_option maxHeartbeats 1000000 in
theorem c_appendSet {I : Nat → Nat → Int32} {L : Nat → Nat → Int64} {R : Nat → Nat → Option Nat} (hR : aRf R) {s : jN} {k b e : Nat} (hs : nRep I s) (ho : jOk s) (h6 : jSix s) (hk : I 16 5 = nI k) (hkk : k < 31) (hb : b < 2 ^ 30) (he : e < 2 ^ 30) : aM mX5_appendSet [.ref 16, .int (nI b), .int (nI e)] (sh0, I, L, R) (fun r h' => r = none ∧ ∃ I', h' = (sh0, I', L, R) ∧ I' 16 5 = nI (k + 1) ∧ seRep I' s k (b, e) ∧ asKeep I I' k) := by
  refine aM_of plX5_appendSet (Nat.le_of_ble_eq_true rfl) ?_
  refine aX_aload_n dX5_appendSet_0 rfl ?_
  refine aX_get (v := .int (nI (k))) dX5_appendSet_1 lfX5_50 s16 (congrArg Value.int (hk)) ?_
  refine aX_istore_n (lv' := [(0, .ref 16), (1, .int (nI (b))), (2, .int (nI (e))), (3, .int (nI (k)))]) dX5_appendSet_4 (by decide) rfl ?_
  refine aX_iconst (v := nI 0) dX5_appendSet_5 (by decide) ?_
  refine aX_istore (lv' := [(0, .ref 16), (1, .int (nI (b))), (2, .int (nI (e))), (3, .int (nI (k))), (4, .int (nI (0)))]) dX5_appendSet_6 (by decide) rfl ?_
  refine aX_iconst (v := (-1)) dX5_appendSet_8 (by decide) ?_
  refine aX_istore (lv' := [(0, .ref 16), (1, .int (nI (b))), (2, .int (nI (e))), (3, .int (nI (k))), (4, .int (nI (0))), (5, .int ((-1)))]) dX5_appendSet_9 (by decide) rfl ?_
  refine aX_iconst (v := nI 0) dX5_appendSet_11 (by decide) ?_
  refine aX_istore (lv' := [(0, .ref 16), (1, .int (nI (b))), (2, .int (nI (e))), (3, .int (nI (k))), (4, .int (nI (0))), (5, .int ((-1))), (6, .int (nI (0)))]) dX5_appendSet_12 (by decide) rfl ?_
  exact l_appendSet hR hs ho h6 hkk hb he _ 0 (Nat.zero_le _) rfl 0 rfl none rfl I ⟨fun _ _ _ => rfl, fun j m hj => by simp [jML] at hj⟩

