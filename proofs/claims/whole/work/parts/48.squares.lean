/-! THE SQUARES: chords, moves, equal steps -/
def vLt (s : jN) (S : List (Nat × Nat)) (k : Nat) (v : Nat × (Nat → Nat → Nat)) : Prop := ∀ k' m, k' < k → m ∈ jMem s (S.getD k' (0, 0)).1 → v.2 k' m < v.1
theorem jVm_lt {s : jN} {S : List (Nat × Nat)} {k : Nat} : ∀ (l d : List Nat) (v : Nat × (Nat → Nat → Nat)), (∀ m, m ∈ l → m < s.1) → vLt s S k v → (∀ m, m ∈ d → v.2 k m < v.1) → vLt s S k (l.foldl (jVm s S k) v) ∧ (∀ m, m ∈ l ∨ m ∈ d → (l.foldl (jVm s S k) v).2 k m < (l.foldl (jVm s S k) v).1)
  | [], d, v, _, h1, h2 => ⟨h1, fun m hm => h2 m (by simpa using hm)⟩
  | m :: t, d, v, hl, h1, h2 => by
    have key : vLt s S k (jVm s S k v m) ∧ ∀ x, x ∈ m :: d → (jVm s S k v m).2 k x < (jVm s S k v m).1 := by
      unfold jVm
      by_cases hb : (s.2.2.2.2 m && decide (0 < k) && jOn s m (S.getD (k - 1) (0, 0)).1) = true
      · rw [if_pos hb]
        simp only [Bool.and_eq_true, decide_eq_true_eq] at hb
        have hprev := h1 (k - 1) m (by omega) (jML_mem.mpr ⟨hl m (List.mem_cons_self ..), hb.2⟩)
        refine ⟨fun k' x hk' hx => ?_, fun x hx => ?_⟩
        · show aU v.2 k m _ k' x < v.1
          rw [aU_n (by omega)]; exact h1 k' x hk' hx
        · show aU v.2 k m _ k x < v.1
          by_cases e : x = m
          · subst e; rw [aU_s]; exact hprev
          · rw [aU_n (by omega)]
            rcases List.mem_cons.mp hx with z | z
            · exact absurd z e
            · exact h2 x z
      · rw [if_neg hb]
        refine ⟨fun k' x hk' hx => ?_, fun x hx => ?_⟩
        · show aU v.2 k m _ k' x < v.1 + 1
          rw [aU_n (by omega)]; have := h1 k' x hk' hx; omega
        · show aU v.2 k m _ k x < v.1 + 1
          by_cases e : x = m
          · subst e; rw [aU_s]; omega
          · rw [aU_n (by omega)]
            rcases List.mem_cons.mp hx with z | z
            · exact absurd z e
            · have := h2 x z; omega
    obtain ⟨g1, g2⟩ := jVm_lt t (m :: d) (jVm s S k v m) (fun x hx => hl x (List.mem_cons_of_mem _ hx)) key.1 key.2
    refine ⟨g1, fun x hx => g2 x ?_⟩
    rcases hx with z | z
    · rcases List.mem_cons.mp z with y | y
      · exact Or.inr (by rw [y]; exact List.mem_cons_self ..)
      · exact Or.inl y
    · exact Or.inr (List.mem_cons_of_mem _ z)
theorem jVS_lt (s : jN) (S : List (Nat × Nat)) : ∀ k, vLt s S k (jVS s S k)
  | 0 => fun k' m h => absurd h (by omega)
  | k + 1 => by
    have ih := jVS_lt s S k
    obtain ⟨g1, g2⟩ := jVm_lt (k := k) (jMem s (S.getD k (0, 0)).1) [] (jVS s S k) (fun m hm => (jML_mem.mp hm).1) ih (fun m hm => by cases hm)
    intro k' m hk' hm
    by_cases e : k' = k
    · subst e; exact g2 m (Or.inl hm)
    · exact g1 k' m (by omega) hm
theorem jV_lt {s : jN} {k m : Nat} (hk : k < (jS s).length) (hm : m < s.1) (hon : jOn s m (jB s k) = true) : jV s k m < jVn s := jVS_lt s (jS s) (jS s).length k m hk (jML_mem.mpr ⟨hm, hon⟩)
theorem c_varOf {I : Nat → Nat → Int32} {L : Nat → Nat → Int64} {R : Nat → Nat → Option Nat} (hR : aRf R) {s : jN} (hc : cRep I s) {k m : Nat} (hk : k < (jS s).length) (hm : m < s.1) (hon : jOn s m (jB s k) = true) : aMp mX5_variableOf [.ref 16, .int (nI k), .int (nI m)] (sh0, I, L, R) (.int (nI (jV s k m))) := by
  obtain ⟨q, hq, hqb⟩ := jQ hk
  have hSl := jS_len s
  have hn := hc.2.1.1
  have := hc.2.2.2.2.2 k q m hq (jML_mem.mpr ⟨hm, by rw [hqb]; exact hon⟩)
  have z := c_variableOf (I := I) (L := L) hR (k := k) (i := m) (by omega) (by omega)
  rw [this] at z
  exact z
def pairsF {α : Type} (f : α → Nat → Nat → α) : List Nat → α → α
  | [], a => a
  | m :: t, a => pairsF f t (t.foldl (fun a x => f a m x) a)
def jTd (s : jN) (r : jR) (ch : Nat → Nat) (k m x : Nat) : Int := (jDv s r (jB s k) (ch k) m - jDv s r (jB s k) (ch k) x).toInt
def jChF (s : jN) (r : jR) (ch : Nat → Nat) (w : jW) (k : Nat) (S : jQt) (m x : Nat) : jQt := jPair S (jV s k m) (jV s k x) (w 2) (jTd s r ch k m x)
def jChord (s : jN) (r : jR) (ch : Nat → Nat) (w : jW) (k : Nat) (S : jQt) : jQt := pairsF (jChF s r ch w k) (jMem s (jB s k)) S
def jMvF (s : jN) (w : jW) (k : Nat) (S : jQt) (m : Nat) : jQt := if s.2.2.2.2 m then S else jPair S (jV s k m) (jV s (k + 1) m) (w 3) 0
def jMove (s : jN) (w : jW) (k : Nat) (S : jQt) : jQt := if k + 1 < (jS s).length then (jCm s k).foldl (jMvF s w k) S else S
def jEqF (s : jN) (w : jW) (k : Nat) (S : jQt) (m : Nat) : jQt := jA S (jV s k m) (jV s k m) (S.1 (jV s k m) (jV s k m) + w 4)
def jEqu (s : jN) (w : jW) (k : Nat) (S : jQt) : jQt := (jMem s (jB s k)).foldl (jEqF s w k) S
def jGath (s : jN) (r : jR) (ch : Nat → Nat) (w : jW) : Nat → jQt
  | 0 => jQ0
  | k + 1 => jEqu s w k (jMove s w k (jChord s r ch w k (jGath s r ch w k)))
theorem foldl_take {α : Type} {l : List Nat} {f : α → Nat → α} {a : α} {i m : Nat} (h : l[i]? = some m) : (l.take (i + 1)).foldl f a = f ((l.take i).foldl f a) m := take_foldl h
set_option maxHeartbeats 1000000 in
theorem l_addEquals {I : Nat → Nat → Int32} {L : Nat → Nat → Int64} {R : Nat → Nat → Option Nat} (hR : aRf R) {S : jQt} {s : jN} (hc : cRep I s) {w : jW} (hw : wRep I w) {k : Nat} (hk : k < (jS s).length) (hsz : I 53 4 = nI (jVn s)) (hvn : jVn s ≤ 20) {q : Nat × Nat} (hq : (jS s)[k]? = some q) (hqb : q.1 = jB s k) : ∀ (k9 i : Nat), i ≤ jSnd s q.1 → (jSnd s q.1) - i = k9 → ∀ (L1 : Nat → Nat → Int64) (S1 : jQt), qRep L1 S1 → lK 53 75 L L1 → ((jMem s q.1).take i).foldl (jEqF s w k) S = S1 → aX mX7_addEquals aE0 (sh0, I, L1, R) 2 [(0, .ref 53), (1, .int (nI (k))), (2, .int (nI (i)))] [] 0 0 (fun ans h' => ans = none ∧ ∃ L', h' = (sh0, I, L', R) ∧ qRep L' (jEqu s w k S) ∧ lK 53 75 L L') := by
  intro k9
  induction k9 using Nat.strongRecOn with
  | _ k9 ih =>
    intro i hi hk9 L1  S1  hqr hl hf
    obtain ⟨hs, ho, h6, hS, hV⟩ := id hc
    have hn := ho.1
    have hSl := jS_len s
    have hse := hS.2 k q hq
    have hsl := h6 q.1
    have hw4 := (hw.1.2 4 (by decide) (by decide))
    refine aX_iload_n dX7_addEquals_2 rfl ?_
    refine aX_aload_n dX7_addEquals_3 rfl ?_
    refine aX_get dX7_addEquals_4 lfX7_24 s53 (f53_0 hR) ?_
    refine aX_get dX7_addEquals_7 lfX7_97 s16 (f16_9 hR) ?_
    refine aX_iload_n dX7_addEquals_10 rfl ?_
    refine nIald (v := nI (jSnd s q.1)) dX7_addEquals_11 s24 (by first | omega | exact Nat.lt_of_le_of_lt (Nat.mod_le _ _) (by omega)) (by decide) (hse.2.2.2.1) ?_
    refine nGe (tgt := 70) dX7_addEquals_12 (by decide) (by first | omega | exact Nat.lt_of_le_of_lt (Nat.mod_le _ _) (by omega)) (by first | omega | exact Nat.lt_of_le_of_lt (Nat.mod_le _ _) (by omega)) (fun c1 => ?_) (fun c1 => ?_)
    · exact rV dX7_addEquals_70 rfl (⟨rfl, L1, rfl, by unfold jEqu; rw [← hqb]; rw [List.take_of_length_le (by rw [jMem_len]; omega)] at hf; rw [hf]; exact hqr, hl⟩)
    · obtain ⟨m, hm⟩ : ∃ m, (jMem s q.1)[i]? = some m := ⟨_, List.getElem?_eq_getElem (by rw [jMem_len]; exact c1)⟩
      have hml := jMem_lt hm
      have hij := jMem_jlt h6 hm
      have honm : jOn s m (jB s k) = true := by rw [← hqb]; exact hml.2
      have hvl := jV_lt hk hml.1 honm
      refine aX_aload_n dX7_addEquals_15 rfl ?_
      refine aX_get dX7_addEquals_16 lfX7_24 s53 (f53_0 hR) ?_
      refine aX_iload_n dX7_addEquals_19 rfl ?_
      refine aX_aload_n dX7_addEquals_20 rfl ?_
      refine aX_get dX7_addEquals_21 lfX7_24 s53 (f53_0 hR) ?_
      refine aX_get dX7_addEquals_24 lfX7_100 s16 (f16_10 hR) ?_
      refine aX_iload_n dX7_addEquals_27 rfl ?_
      refine aX_bipush (v := nI 6) dX7_addEquals_28 (by decide) ?_
      refine nMul dX7_addEquals_30 ?_
      refine aX_iload_n dX7_addEquals_31 rfl ?_
      refine nAdd dX7_addEquals_32 ?_
      refine nIald (v := nI (m)) dX7_addEquals_33 s25 (by first | omega | exact Nat.lt_of_le_of_lt (Nat.mod_le _ _) (by omega)) (by decide) (hse.2.2.2.2 i m hm) ?_
      refine cVp (As := [.int (nI (k)), .int (nI (m))]) (st := []) (v := .int (nI (jV s k m))) dX7_addEquals_34 kX7_addEquals_106 s16 aEok0 rfl rfl (Nat.le_of_ble_eq_true rfl) (c_varOf hR hc hk hml.1 honm) ?_
      refine aX_istore_n (lv' := [(0, .ref 53), (1, .int (nI (k))), (2, .int (nI (i))), (3, .int (nI (jV s k m)))]) dX7_addEquals_37 (by decide) rfl ?_
      refine aX_iload_n dX7_addEquals_38 rfl ?_
      refine aX_aload_n dX7_addEquals_39 rfl ?_
      refine aX_get (v := .int (nI (jVn s))) dX7_addEquals_40 lfX7_70 s53 (congrArg Value.int (hsz)) ?_
      refine nGe (tgt := 64) dX7_addEquals_43 (by decide) (by first | omega | exact Nat.lt_of_le_of_lt (Nat.mod_le _ _) (by omega)) (by first | omega | exact Nat.lt_of_le_of_lt (Nat.mod_le _ _) (by omega)) (fun c2 => ?_) (fun c2 => ?_)
      · exact absurd c2 (by omega)
      · refine aX_aload_n dX7_addEquals_46 rfl ?_
        refine aX_get dX7_addEquals_47 lfX7_11 s53 (f53_7 hR) ?_
        refine aX_iload_n dX7_addEquals_50 rfl ?_
        refine nAald (r := 55 + jV s k m) dX7_addEquals_51 s54 (by decide) (by first | omega | exact Nat.lt_of_le_of_lt (Nat.mod_le _ _) (by omega)) (by decide) (r54 hR (jV s k m) (by omega)) ?_
        refine aX_iload_n dX7_addEquals_52 rfl ?_
        refine aX_dup2_11 dX7_addEquals_53 rfl rfl ?_
        refine nLald (v := lZ (S1.1 (jV s k m) (jV s k m))) dX7_addEquals_54 (s54r (jV s k m) (by omega)) (by first | omega | exact Nat.lt_of_le_of_lt (Nat.mod_le _ _) (by omega)) (by decide) (hqr.1 _ _ (by omega) (by omega)) ?_
        refine aX_aload_n dX7_addEquals_55 rfl ?_
        refine aX_get dX7_addEquals_56 lfX7_36 s53 (f53_3 hR) ?_
        refine aX_iconst (v := nI 4) dX7_addEquals_59 (by decide) ?_
        refine nIald (v := nI (w 4)) dX7_addEquals_60 s9 (by first | omega | exact Nat.lt_of_le_of_lt (Nat.mod_le _ _) (by omega)) (by decide) (hw.2 4 (by decide)) ?_
        refine kI2l dX7_addEquals_61 (by first | omega | exact Nat.lt_of_le_of_lt (Nat.mod_le _ _) (by omega)) ?_
        refine yAdd (a := S1.1 (jV s k m) (jV s k m)) (b := ((w 4 : Nat) : Int)) dX7_addEquals_62 (rfl) (kZ _) ?_
        refine nLast dX7_addEquals_63 (s54r (jV s k m) (by omega)) (by first | omega | exact Nat.lt_of_le_of_lt (Nat.mod_le _ _) (by omega)) (by decide) ?_
        obtain ⟨L2, hL2⟩ : ∃ z, z = (aU L1 (55 + jV s k m) (jV s k m) (lZ ((S1.1 (jV s k m) (jV s k m)) + (((w 4 : Nat) : Int))))) := ⟨_, rfl⟩
        rw [← hL2]
        have hq2 : qRep L2 (jEqF s w k S1 m) := by rw [hL2]; exact qRep_A hqr (by omega) _
        have hl2 : lK 53 75 L L2 := by rw [hL2]; exact lK_set hl (by omega) (by omega)
        refine nInc (lv' := [(0, .ref 53), (1, .int (nI (k))), (2, .int (nI (i + 1))), (3, .int (nI (jV s k m)))]) dX7_addEquals_64 rfl rfl (by decide) rfl ?_
        refine aX_goto (tgt := 2) dX7_addEquals_67 (by decide) ?_
        refine aX_lv (lv' := [(0, .ref 53), (1, .int (nI (k))), (2, .int (nI (i + 1)))]) [0, 1, 2] rfl ?_
        exact ih (jSnd s q.1 - (i + 1)) (by omega) (i + 1) (by omega) rfl L2 _ hq2 hl2 (by rw [foldl_take hm, hf])
set_option maxHeartbeats 1000000 in
theorem c_addEquals {I : Nat → Nat → Int32} {L : Nat → Nat → Int64} {R : Nat → Nat → Option Nat} (hR : aRf R) {S : jQt} (hqr : qRep L S) {s : jN} (hc : cRep I s) {w : jW} (hw : wRep I w) {k : Nat} (hk : k < (jS s).length) (hsz : I 53 4 = nI (jVn s)) (hvn : jVn s ≤ 20) : aM mX7_addEquals [.ref 53, .int (nI k)] (sh0, I, L, R) (fun ans h' => ans = none ∧ ∃ L', h' = (sh0, I, L', R) ∧ qRep L' (jEqu s w k S) ∧ lK 53 75 L L') := by
  obtain ⟨q, hq, hqb⟩ := jQ hk
  refine aM_of plX7_addEquals (Nat.le_of_ble_eq_true rfl) ?_
  refine aX_iconst (v := nI 0) dX7_addEquals_0 (by decide) ?_
  refine aX_istore_n (lv' := [(0, .ref 53), (1, .int (nI (k))), (2, .int (nI (0)))]) dX7_addEquals_1 (by decide) rfl ?_
  exact l_addEquals hR hc hw hk hsz hvn hq hqb _ 0 (by omega) rfl L S hqr lK_refl rfl
set_option maxHeartbeats 1000000 in
theorem l_addMoves {I : Nat → Nat → Int32} {L : Nat → Nat → Int64} {R : Nat → Nat → Option Nat} (hR : aRf R) {S : jQt} {s : jN} (hc : cRep I s) {w : jW} (hw : wRep I w) {k : Nat} (hk : k < (jS s).length) (hsz : I 53 4 = nI (jVn s)) (hvn : jVn s ≤ 20) (hk1 : k + 1 < (jS s).length) {q0 q1 : Nat × Nat} (hq0 : (jS s)[k]? = some q0) (hb0 : q0.1 = jB s k) (hq1 : (jS s)[k + 1]? = some q1) (hb1 : q1.1 = jB s (k + 1)) (hcm : cmRep I (jCm s k)) : ∀ (k9 i : Nat), i ≤ (jCm s k).length → ((jCm s k).length) - i = k9 → ∀ (L1 : Nat → Nat → Int64) (S1 : jQt), qRep L1 S1 → lK 53 75 L L1 → ((jCm s k).take i).foldl (jMvF s w k) S = S1 → aX mX7_addMoves aE0 (sh0, I, L1, R) 10 [(0, .ref 53), (1, .int (nI (k))), (2, .int (nI (i)))] [] 0 0 (fun ans h' => ans = none ∧ ∃ L', h' = (sh0, I, L', R) ∧ qRep L' ((jCm s k).foldl (jMvF s w k) S) ∧ lK 53 75 L L') := by
  intro k9
  induction k9 using Nat.strongRecOn with
  | _ k9 ih =>
    intro i hi hk9 L1  S1  hqr hl hf
    obtain ⟨hs, ho, h6, hS, hV⟩ := id hc
    have hn := ho.1
    have hSl := jS_len s
    have hw3 := (hw.1.2 3 (by decide) (by decide))
    have hcl6 := jCm_len h6 (k := k)
    refine aX_iload_n dX7_addMoves_10 rfl ?_
    refine aX_aload_n dX7_addMoves_11 rfl ?_
    refine aX_get dX7_addMoves_12 lfX7_24 s53 (f53_0 hR) ?_
    refine aX_get (v := .int (nI ((jCm s k).length))) dX7_addMoves_15 lfX7_116 s16 (congrArg Value.int (hcm.1)) ?_
    refine nGe (tgt := 81) dX7_addMoves_18 (by decide) (by first | omega | exact Nat.lt_of_le_of_lt (Nat.mod_le _ _) (by omega)) (by first | omega | exact Nat.lt_of_le_of_lt (Nat.mod_le _ _) (by omega)) (fun c1 => ?_) (fun c1 => ?_)
    · exact rV dX7_addMoves_81 rfl (⟨rfl, L1, rfl, by rw [List.take_of_length_le (by omega)] at hf; rw [hf]; exact hqr, hl⟩)
    · obtain ⟨m, hm⟩ := jCm_at c1
      have hmm := jCm_mem hq0 hq1 hm
      have hon0 : jOn s m (jB s k) = true := by rw [← hb0]; exact hmm.2.1
      have hon1 : jOn s m (jB s (k + 1)) = true := by rw [← hb1]; exact hmm.2.2
      have hv0 := jV_lt (by omega) hmm.1 hon0
      have hv1 := jV_lt hk1 hmm.1 hon1
      refine aX_aload_n dX7_addMoves_21 rfl ?_
      refine aX_get dX7_addMoves_22 lfX7_24 s53 (f53_0 hR) ?_
      refine aX_get dX7_addMoves_25 lfX7_119 s16 (f16_14 hR) ?_
      refine aX_iload_n dX7_addMoves_28 rfl ?_
      refine nIald (v := nI (m)) dX7_addMoves_29 s27 (by first | omega | exact Nat.lt_of_le_of_lt (Nat.mod_le _ _) (by omega)) (by decide) (hcm.2 i m hm) ?_
      refine aX_istore_n (lv' := [(0, .ref 53), (1, .int (nI (k))), (2, .int (nI (i))), (3, .int (nI (m)))]) dX7_addMoves_30 (by decide) rfl ?_
      refine aX_aload_n dX7_addMoves_31 rfl ?_
      refine aX_get dX7_addMoves_32 lfX7_24 s53 (f53_0 hR) ?_
      refine aX_get dX7_addMoves_35 lfX7_122 s16 (f16_4 hR) ?_
      refine aX_iload_n dX7_addMoves_38 rfl ?_
      refine nZald (v := bI (s.2.2.2.2 m)) dX7_addMoves_39 s20 (by first | omega | exact Nat.lt_of_le_of_lt (Nat.mod_le _ _) (by omega)) (by decide) ((hs.2 m hmm.1).2.2.2) ?_
      refine bNe (tgt := 75) dX7_addMoves_40 (by decide) (fun c2 => ?_) (fun c2 => ?_)
      · have hbd : s.2.2.2.2 m = true := c2
        refine nInc (lv' := [(0, .ref 53), (1, .int (nI (k))), (2, .int (nI (i + 1))), (3, .int (nI (m)))]) dX7_addMoves_75 rfl rfl (by decide) rfl ?_
        refine aX_goto (tgt := 10) dX7_addMoves_78 (by decide) ?_
        refine aX_lv (lv' := [(0, .ref 53), (1, .int (nI (k))), (2, .int (nI (i + 1)))]) [0, 1, 2] rfl ?_
        exact ih ((jCm s k).length - (i + 1)) (by omega) (i + 1) (by omega) rfl L1 S1 hqr hl (by rw [foldl_take hm, hf]; unfold jMvF; rw [if_pos hbd])
      · have hbd : s.2.2.2.2 m = false := c2
        refine aX_aload_n dX7_addMoves_43 rfl ?_
        refine aX_aload_n dX7_addMoves_44 rfl ?_
        refine aX_get dX7_addMoves_45 lfX7_24 s53 (f53_0 hR) ?_
        refine aX_iload_n dX7_addMoves_48 rfl ?_
        refine aX_iload_n dX7_addMoves_49 rfl ?_
        refine cVp (As := [.int (nI (k)), .int (nI (m))]) (st := [.ref 53]) (v := .int (nI (jV s k m))) dX7_addMoves_50 kX7_addMoves_106 s16 aEok0 rfl rfl (Nat.le_of_ble_eq_true rfl) (c_varOf hR hc hk hmm.1 hon0) ?_
        refine aX_aload_n dX7_addMoves_53 rfl ?_
        refine aX_get dX7_addMoves_54 lfX7_24 s53 (f53_0 hR) ?_
        refine aX_iload_n dX7_addMoves_57 rfl ?_
        refine aX_iconst (v := nI 1) dX7_addMoves_58 (by decide) ?_
        refine nAdd dX7_addMoves_59 ?_
        refine aX_iload_n dX7_addMoves_60 rfl ?_
        refine cVp (As := [.int (nI (k + 1)), .int (nI (m))]) (st := [.int (nI (jV s k m)), .ref 53]) (v := .int (nI (jV s (k + 1) m))) dX7_addMoves_61 kX7_addMoves_106 s16 aEok0 rfl rfl (Nat.le_of_ble_eq_true rfl) (c_varOf hR hc hk1 hmm.1 hon1) ?_
        refine aX_aload_n dX7_addMoves_64 rfl ?_
        refine aX_get dX7_addMoves_65 lfX7_36 s53 (f53_3 hR) ?_
        refine aX_iconst (v := nI 3) dX7_addMoves_68 (by decide) ?_
        refine nIald (v := nI (w 3)) dX7_addMoves_69 s9 (by first | omega | exact Nat.lt_of_le_of_lt (Nat.mod_le _ _) (by omega)) (by decide) (hw.2 3 (by decide)) ?_
        refine kI2l dX7_addMoves_70 (by first | omega | exact Nat.lt_of_le_of_lt (Nat.mod_le _ _) (by omega)) ?_
        refine aX_lconst (v := lN 0) dX7_addMoves_71 rfl ?_
        refine cV (As := [.int (nI (jV s k m)), .int (nI (jV s (k + 1) m)), .long (lN (w 3)), .long (lN (0))]) (st := []) dX7_addMoves_72 kX7_addMoves_109 s53 aEok0 rfl rfl (Nat.le_of_ble_eq_true rfl) (by rw [kZ, kZ]; exact c_addPair hR hqr hsz hvn hv0 hv1) (fun r h' hq9 => ?_)
        obtain ⟨rfl, L2, rfl, hq2, hl2⟩ := hq9
        refine ⟨rfl, ?_⟩
        refine nInc (lv' := [(0, .ref 53), (1, .int (nI (k))), (2, .int (nI (i + 1))), (3, .int (nI (m)))]) dX7_addMoves_75 rfl rfl (by decide) rfl ?_
        refine aX_goto (tgt := 10) dX7_addMoves_78 (by decide) ?_
        refine aX_lv (lv' := [(0, .ref 53), (1, .int (nI (k))), (2, .int (nI (i + 1)))]) [0, 1, 2] rfl ?_
        exact ih ((jCm s k).length - (i + 1)) (by omega) (i + 1) (by omega) rfl L2 _ hq2 (lK_trans hl hl2) (by rw [foldl_take hm, hf]; unfold jMvF; rw [if_neg (by rw [hbd]; exact Bool.false_ne_true)]; rfl)
set_option maxHeartbeats 1000000 in
theorem c_addMoves {I : Nat → Nat → Int32} {L : Nat → Nat → Int64} {R : Nat → Nat → Option Nat} (hR : aRf R) {S : jQt} (hqr : qRep L S) {s : jN} (hc : cRep I s) {w : jW} (hw : wRep I w) {k : Nat} (hk : k < (jS s).length) (hsz : I 53 4 = nI (jVn s)) (hvn : jVn s ≤ 20) : aM mX7_addMoves [.ref 53, .int (nI k)] (sh0, I, L, R) (fun ans h' => ans = none ∧ ∃ I' L', h' = (sh0, I', L', R) ∧ qRep L' (jMove s w k S) ∧ cmKeep I I' ∧ lK 53 75 L L') := by
  obtain ⟨hs, ho, h6, hS, hV⟩ := id hc
  have hn := ho.1
  have hSl := jS_len s
  by_cases hk1 : k + 1 < (jS s).length
  · obtain ⟨q0, hq0, hb0⟩ := jQ hk
    obtain ⟨q1, hq1, hb1⟩ := jQ hk1
    refine aM_of plX7_addMoves (Nat.le_of_ble_eq_true rfl) ?_
    refine aX_aload_n dX7_addMoves_0 rfl ?_
    refine aX_get dX7_addMoves_1 lfX7_24 s53 (f53_0 hR) ?_
    refine aX_iload_n dX7_addMoves_4 rfl ?_
    refine cV (As := [.int (nI (k))]) (st := []) dX7_addMoves_5 kX7_addMoves_113 s16 aEok0 rfl rfl (Nat.le_of_ble_eq_true rfl) (c_findCommon hR hc hq0 hq1) (fun r h' hq9 => ?_)
    obtain ⟨rfl, I2, rfl, hcm, hk2⟩ := hq9
    refine ⟨rfl, ?_⟩
    have hc2 := cRep_cm hk2 hc
    have hw2 : wRep I2 w := ⟨hw.1, fun i hi => (hk2 9 i (by omega) (by omega)).trans (hw.2 i hi)⟩
    have hsz2 : I2 53 4 = nI (jVn s) := (hk2 53 4 (by omega) (by omega)).trans hsz
    refine aX_iconst (v := nI 0) dX7_addMoves_8 (by decide) ?_
    refine aX_istore_n (lv' := [(0, .ref 53), (1, .int (nI (k))), (2, .int (nI (0)))]) dX7_addMoves_9 (by decide) rfl ?_
    refine aX_mono (l_addMoves hR hc2 hw2 hk hsz2 hvn hk1 hq0 hb0 hq1 hb1 hcm _ 0 (by omega) rfl L S hqr lK_refl rfl) (fun ans h' hq9 => ?_)
    obtain ⟨rfl, L2, rfl, g1, g2⟩ := hq9
    exact ⟨rfl, I2, L2, rfl, by unfold jMove; rw [if_pos hk1]; exact g1, hk2, g2⟩
  · refine aM_of plX7_addMoves (Nat.le_of_ble_eq_true rfl) ?_
    refine aX_aload_n dX7_addMoves_0 rfl ?_
    refine aX_get dX7_addMoves_1 lfX7_24 s53 (f53_0 hR) ?_
    refine aX_iload_n dX7_addMoves_4 rfl ?_
    refine cV (As := [.int (nI (k))]) (st := []) dX7_addMoves_5 kX7_addMoves_113 s16 aEok0 rfl rfl (Nat.le_of_ble_eq_true rfl) (c_findCommon0 hR hc (by unfold jIx; rw [show nI 1 = 1 from rfl, nI_1, show decide (nI (k + 1) < nI (jS s).length) = false by rw [decide_eq_false_iff_not, nI_ltI (by omega) (by omega)]; omega]; simp)) (fun r h' hq9 => ?_)
    obtain ⟨rfl, rfl⟩ := hq9
    refine ⟨rfl, ?_⟩
    refine aX_iconst (v := nI 0) dX7_addMoves_8 (by decide) ?_
    refine aX_istore_n (lv' := [(0, .ref 53), (1, .int (nI (k))), (2, .int (nI (0)))]) dX7_addMoves_9 (by decide) rfl ?_
    refine aX_iload_n dX7_addMoves_10 rfl ?_
    refine aX_aload_n dX7_addMoves_11 rfl ?_
    refine aX_get dX7_addMoves_12 lfX7_24 s53 (f53_0 hR) ?_
    refine aX_get (v := .int (nI (0))) dX7_addMoves_15 lfX7_116 s16 (congrArg Value.int (show aU I 16 13 (nI 0) 16 13 = nI 0 from aU_s)) ?_
    refine nGe (tgt := 81) dX7_addMoves_18 (by decide) (by first | omega | exact Nat.lt_of_le_of_lt (Nat.mod_le _ _) (by omega)) (by first | omega | exact Nat.lt_of_le_of_lt (Nat.mod_le _ _) (by omega)) (fun c1 => ?_) (fun c1 => ?_)
    · exact rV dX7_addMoves_81 rfl (⟨rfl, _, L, rfl, by unfold jMove; rw [if_neg hk1]; exact hqr, fun q j h1 h2 => by rw [aU_n (by omega)], lK_refl⟩)
    · exact absurd c1 (by decide)
