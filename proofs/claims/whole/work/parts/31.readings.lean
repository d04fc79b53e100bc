/-! HARSH of a reading; how many readings -/
def jHv (r : jR) (T : Nat → Nat) (m x : Nat) : Int32 := jHr (jPd (jU r (T m)) (jD r (T m))) (jPd (jU r (T x)) (jD r (T x))) 5
def jHsum (g : Nat → Nat → Int32) : List Nat → Int32 → Int32
  | [], a => a
  | m :: t, a => jHsum g t (t.foldl (fun a x => a + g m x) a)
def jHarsh (s : jN) (r : jR) (b rd : Nat) : Int32 := jHsum (jHv r (jSl s r b rd)) (jMem s b) 0
theorem drop_at {l : List Nat} {i m : Nat} (h : l[i]? = some m) : l.drop i = m :: l.drop (i + 1) := by
  have hl := List.getElem?_eq_some_iff.mp h
  rw [List.drop_eq_getElem_cons hl.1, hl.2]
def jCnts (s : jN) (r : jR) : List Nat := (jS s).map (fun q => jCo s r q.1)
def jLeast (s : jN) (r : jR) : Nat := (jCnts s r).foldl min 64
def jMost (s : jN) (r : jR) : Nat := (jCnts s r).foldl max 0
theorem jCnts_at {s : jN} {r : jR} {k : Nat} {q : Nat × Nat} (h : (jS s)[k]? = some q) : (jCnts s r)[k]? = some (jCo s r q.1) := by unfold jCnts; rw [List.getElem?_map, h]; rfl
theorem jCnts_len {s : jN} {r : jR} : (jCnts s r).length = (jS s).length := List.length_map ..
theorem take_foldl {α : Type} {l : List Nat} {f : α → Nat → α} {a : α} {i m : Nat} (h : l[i]? = some m) : (l.take (i + 1)).foldl f a = f ((l.take i).foldl f a) m := by
  rw [List.take_succ, h, List.foldl_append]
  rfl
def jHasRd (s : jN) (r : jR) (x y : Int32) : Bool := jIx x (jS s).length && !decide (y < 0) && decide (y < nI (jCo s r ((jS s).getD x.toNatClampNeg (0, 0)).1))
set_option maxHeartbeats 1000000 in
theorem l_rharsh1 {I : Nat → Nat → Int32} {L : Nat → Nat → Int64} {R : Nat → Nat → Option Nat} (hR : aRf R) {s : jN} (hc : cRep I s) {k : Nat} {q : Nat × Nat} (hq : (jS s)[k]? = some q) {r : jR} (hr : rRep I r) {rd : Nat} (hop : opRep I s r q.1 rd) {i m : Nat} (hm : (jMem s q.1)[i]? = some m) {A : Int32} {Q : Option Value → aH → Prop} (kk : aX mX4_harshness aE0 (sh0, I, L, R) 98 [(0, .ref 39), (1, .int (nI k)), (2, .int (A)), (3, .int (nI (k * 6))), (4, .int (nI i)), (5, .int (nI (jSl s r q.1 rd m))), (6, .int (nI (jSnd s q.1)))] [] 0 0 Q) : ∀ (k9 j : Nat), j ≤ jSnd s q.1 → jSnd s q.1 - j = k9 → ∀ acc : Int32, ((jMem s q.1).drop j).foldl (fun a x => a + jHv r (jSl s r q.1 rd) m x) acc = A → aX mX4_harshness aE0 (sh0, I, L, R) 49 [(0, .ref 39), (1, .int (nI k)), (2, .int (acc)), (3, .int (nI (k * 6))), (4, .int (nI i)), (5, .int (nI (jSl s r q.1 rd m))), (6, .int (nI (j)))] [] 0 0 Q := by
  intro k9
  induction k9 using Nat.strongRecOn with
  | _ k9 ih =>
    intro j hj hk acc hA
    obtain ⟨hs, ho, h6, hS, hV⟩ := id hc
    have hn := ho.1
    have hSl := jS_len s
    have hkl : k < (jS s).length := (List.getElem?_eq_some_iff.mp hq).1
    have hse := hS.2 k q hq
    have hsi := jS_in hq
    have hbs := (jBase_in hsi.2.2).2.1
    have hbk := ho.2 _ hbs
    have hsl := h6 q.1
    have hmemm : m ∈ jMem s q.1 := List.mem_of_getElem? hm
    have hsokm := jSl_ok s r q.1 rd m
    have hsltm := slOk_lt hr.1 hsokm
    have hslrm := slOk_rep hr hsokm
    have hmlm := jMem_lt hm
    have hijm := jMem_jlt h6 hm
    refine aX_iload dX4_harshness_49 rfl ?_
    refine aX_aload_n dX4_harshness_51 rfl ?_
    refine aX_get dX4_harshness_52 lfX4_15 s39 (f39_0 hR) ?_
    refine aX_get dX4_harshness_55 lfX4_33 s16 (f16_9 hR) ?_
    refine aX_iload_n dX4_harshness_58 rfl ?_
    refine nIald (v := nI (jSnd s q.1)) dX4_harshness_59 s24 (by first | omega | exact Nat.lt_of_le_of_lt (Nat.mod_le _ _) (by omega)) (by decide) (hse.2.2.2.1) ?_
    refine nGe (tgt := 98) dX4_harshness_60 (by decide) (by first | omega | exact Nat.lt_of_le_of_lt (Nat.mod_le _ _) (by omega)) (by first | omega | exact Nat.lt_of_le_of_lt (Nat.mod_le _ _) (by omega)) (fun c1 => ?_) (fun c1 => ?_)
    · obtain rfl : acc = A := by rw [← hA, List.drop_of_length_le (by rw [jMem_len]; omega)]; rfl
      obtain rfl : j = jSnd s q.1 := by omega
      exact kk
    · obtain ⟨x, hx⟩ : ∃ x, (jMem s q.1)[j]? = some x := ⟨_, List.getElem?_eq_getElem (by rw [jMem_len]; exact c1)⟩
      have hmemx : x ∈ jMem s q.1 := List.mem_of_getElem? hx
      have hsokx := jSl_ok s r q.1 rd x
      have hsltx := slOk_lt hr.1 hsokx
      have hslrx := slOk_rep hr hsokx
      have hmlx := jMem_lt hx
      have hijx := jMem_jlt h6 hx
      refine aX_iload_n dX4_harshness_63 rfl ?_
      refine aX_aload_n dX4_harshness_64 rfl ?_
      refine aX_get dX4_harshness_65 lfX4_19 s39 (f39_1 hR) ?_
      refine aX_iload dX4_harshness_68 rfl ?_
      refine aX_aload_n dX4_harshness_70 rfl ?_
      refine aX_get dX4_harshness_71 lfX4_9 s39 (f39_2 hR) ?_
      refine aX_aload_n dX4_harshness_74 rfl ?_
      refine aX_get dX4_harshness_75 lfX4_15 s39 (f39_0 hR) ?_
      refine aX_get dX4_harshness_78 lfX4_36 s16 (f16_10 hR) ?_
      refine aX_iload_n dX4_harshness_81 rfl ?_
      refine aX_iload dX4_harshness_82 rfl ?_
      refine nAdd dX4_harshness_84 ?_
      refine nIald (v := nI (x)) dX4_harshness_85 s25 (by first | omega | exact Nat.lt_of_le_of_lt (Nat.mod_le _ _) (by omega)) (by decide) (hse.2.2.2.2 j x hx) ?_
      refine nIald (v := nI (jSl s r q.1 rd x)) dX4_harshness_86 s40 (by first | omega | exact Nat.lt_of_le_of_lt (Nat.mod_le _ _) (by omega)) (by decide) (hop x hmemx) ?_
      refine cVp (As := [.int (nI (jSl s r q.1 rd m)), .int (nI (jSl s r q.1 rd x))]) (st := [.int (acc)]) (v := .int (jHv r (jSl s r q.1 rd) m x)) dX4_harshness_87 kX4_harshness_80 s10 aEok0 rfl rfl (Nat.le_of_ble_eq_true rfl) (c_harshness hR hsltm hsltx hslrm hslrx) ?_
      refine aX_iadd dX4_harshness_90 ?_
      refine aX_istore_n (lv' := [(0, .ref 39), (1, .int (nI (k))), (2, .int (acc + (jHv r (jSl s r q.1 rd) m x))), (3, .int (nI (k * 6))), (4, .int (nI (i))), (5, .int (nI (jSl s r q.1 rd m))), (6, .int (nI (j)))]) dX4_harshness_91 (by decide) rfl ?_
      refine nInc (lv' := [(0, .ref 39), (1, .int (nI (k))), (2, .int (acc + (jHv r (jSl s r q.1 rd) m x))), (3, .int (nI (k * 6))), (4, .int (nI (i))), (5, .int (nI (jSl s r q.1 rd m))), (6, .int (nI (j + 1)))]) dX4_harshness_92 rfl rfl (by decide) rfl ?_
      refine aX_goto (tgt := 49) dX4_harshness_95 (by decide) ?_
      exact ih (jSnd s q.1 - (j + 1)) (by omega) (j + 1) (by omega) rfl _ (by rw [← hA, drop_at hx]; rfl)

set_option maxHeartbeats 1000000 in
theorem l_rharsh {I : Nat → Nat → Int32} {L : Nat → Nat → Int64} {R : Nat → Nat → Option Nat} (hR : aRf R) {s : jN} (hc : cRep I s) {k : Nat} {q : Nat × Nat} (hq : (jS s)[k]? = some q) {r : jR} (hr : rRep I r) {rd : Nat} (hop : opRep I s r q.1 rd) : ∀ (k9 i : Nat), i ≤ jSnd s q.1 → jSnd s q.1 - i = k9 → ∀ acc : Int32, jHsum (jHv r (jSl s r q.1 rd)) ((jMem s q.1).drop i) acc = jHarsh s r q.1 rd → aX mX4_harshness aE0 (sh0, I, L, R) 10 [(0, .ref 39), (1, .int (nI k)), (2, .int acc), (3, .int (nI (k * 6))), (4, .int (nI i))] [] 0 0 (fun ans h' => h' = (sh0, I, L, R) ∧ ans = some (.int (jHarsh s r q.1 rd))) := by
  intro k9
  induction k9 using Nat.strongRecOn with
  | _ k9 ih =>
    intro i hi hk acc hA
    obtain ⟨hs, ho, h6, hS, hV⟩ := id hc
    have hn := ho.1
    have hSl := jS_len s
    have hkl : k < (jS s).length := (List.getElem?_eq_some_iff.mp hq).1
    have hse := hS.2 k q hq
    have hsi := jS_in hq
    have hbs := (jBase_in hsi.2.2).2.1
    have hbk := ho.2 _ hbs
    have hsl := h6 q.1
    refine aX_iload dX4_harshness_10 rfl ?_
    refine aX_aload_n dX4_harshness_12 rfl ?_
    refine aX_get dX4_harshness_13 lfX4_15 s39 (f39_0 hR) ?_
    refine aX_get dX4_harshness_16 lfX4_33 s16 (f16_9 hR) ?_
    refine aX_iload_n dX4_harshness_19 rfl ?_
    refine nIald (v := nI (jSnd s q.1)) dX4_harshness_20 s24 (by first | omega | exact Nat.lt_of_le_of_lt (Nat.mod_le _ _) (by omega)) (by decide) (hse.2.2.2.1) ?_
    refine nGe (tgt := 104) dX4_harshness_21 (by decide) (by first | omega | exact Nat.lt_of_le_of_lt (Nat.mod_le _ _) (by omega)) (by first | omega | exact Nat.lt_of_le_of_lt (Nat.mod_le _ _) (by omega)) (fun c1 => ?_) (fun c1 => ?_)
    · refine aX_iload_n dX4_harshness_104 rfl ?_
      exact rI dX4_harshness_105 rfl (⟨rfl, by rw [← hA, List.drop_of_length_le (by rw [jMem_len]; omega)]; rfl⟩)
    · obtain ⟨m, hm⟩ : ∃ m, (jMem s q.1)[i]? = some m := ⟨_, List.getElem?_eq_getElem (by rw [jMem_len]; exact c1)⟩
      have hmemm : m ∈ jMem s q.1 := List.mem_of_getElem? hm
      have hsokm := jSl_ok s r q.1 rd m
      have hsltm := slOk_lt hr.1 hsokm
      have hslrm := slOk_rep hr hsokm
      have hmlm := jMem_lt hm
      have hijm := jMem_jlt h6 hm
      refine aX_aload_n dX4_harshness_24 rfl ?_
      refine aX_get dX4_harshness_25 lfX4_9 s39 (f39_2 hR) ?_
      refine aX_aload_n dX4_harshness_28 rfl ?_
      refine aX_get dX4_harshness_29 lfX4_15 s39 (f39_0 hR) ?_
      refine aX_get dX4_harshness_32 lfX4_36 s16 (f16_10 hR) ?_
      refine aX_iload_n dX4_harshness_35 rfl ?_
      refine aX_iload dX4_harshness_36 rfl ?_
      refine nAdd dX4_harshness_38 ?_
      refine nIald (v := nI (m)) dX4_harshness_39 s25 (by first | omega | exact Nat.lt_of_le_of_lt (Nat.mod_le _ _) (by omega)) (by decide) (hse.2.2.2.2 i m hm) ?_
      refine nIald (v := nI (jSl s r q.1 rd m)) dX4_harshness_40 s40 (by first | omega | exact Nat.lt_of_le_of_lt (Nat.mod_le _ _) (by omega)) (by decide) (hop m hmemm) ?_
      refine aX_istore (lv' := [(0, .ref 39), (1, .int (nI (k))), (2, .int (acc)), (3, .int (nI (k * 6))), (4, .int (nI (i))), (5, .int (nI (jSl s r q.1 rd m)))]) dX4_harshness_41 (by decide) rfl ?_
      refine aX_iload dX4_harshness_43 rfl ?_
      refine aX_iconst (v := nI 1) dX4_harshness_45 (by decide) ?_
      refine nAdd dX4_harshness_46 ?_
      refine aX_istore (lv' := [(0, .ref 39), (1, .int (nI (k))), (2, .int (acc)), (3, .int (nI (k * 6))), (4, .int (nI (i))), (5, .int (nI (jSl s r q.1 rd m))), (6, .int (nI (i + 1)))]) dX4_harshness_47 (by decide) rfl ?_
      obtain ⟨A2, eA2⟩ : ∃ y, y = ((jMem s q.1).drop (i + 1)).foldl (fun a x => a + jHv r (jSl s r q.1 rd) m x) acc := ⟨_, rfl⟩
      refine l_rharsh1 hR hc hq hr hop hm (A := A2) ?_ _ (i + 1) (by omega) rfl acc eA2.symm
      refine nInc (lv' := [(0, .ref 39), (1, .int (nI (k))), (2, .int (A2)), (3, .int (nI (k * 6))), (4, .int (nI (i + 1))), (5, .int (nI (jSl s r q.1 rd m))), (6, .int (nI (jSnd s q.1)))]) dX4_harshness_98 rfl rfl (by decide) rfl ?_
      refine aX_goto (tgt := 10) dX4_harshness_101 (by decide) ?_
      refine aX_lv (lv' := [(0, .ref 39), (1, .int (nI k)), (2, .int A2), (3, .int (nI (k * 6))), (4, .int (nI (i + 1)))]) [0, 1, 2, 3, 4] rfl ?_
      exact ih (jSnd s q.1 - (i + 1)) (by omega) (i + 1) (by omega) rfl A2 (by rw [← hA, drop_at hm, eA2]; rfl)

set_option maxHeartbeats 1000000 in
theorem c_rharsh {I : Nat → Nat → Int32} {L : Nat → Nat → Int64} {R : Nat → Nat → Option Nat} (hR : aRf R) {s : jN} (hc : cRep I s) {k : Nat} {q : Nat × Nat} (hq : (jS s)[k]? = some q) {r : jR} (hr : rRep I r) {rd : Nat} (hop : opRep I s r q.1 rd) : aMp mX4_harshness [.ref 39, .int (nI k)] (sh0, I, L, R) (.int (jHarsh s r q.1 rd)) := by
  refine aM_of plX4_harshness (Nat.le_of_ble_eq_true rfl) ?_
  refine aX_iconst (v := nI 0) dX4_harshness_0 (by decide) ?_
  refine aX_istore_n (lv' := [(0, .ref 39), (1, .int (nI (k))), (2, .int (nI (0)))]) dX4_harshness_1 (by decide) rfl ?_
  refine aX_iload_n dX4_harshness_2 rfl ?_
  refine aX_bipush (v := nI 6) dX4_harshness_3 (by decide) ?_
  refine nMul dX4_harshness_5 ?_
  refine aX_istore_n (lv' := [(0, .ref 39), (1, .int (nI (k))), (2, .int (nI (0))), (3, .int (nI (k * 6)))]) dX4_harshness_6 (by decide) rfl ?_
  refine aX_iconst (v := nI 0) dX4_harshness_7 (by decide) ?_
  refine aX_istore (lv' := [(0, .ref 39), (1, .int (nI (k))), (2, .int (nI (0))), (3, .int (nI (k * 6))), (4, .int (nI (0)))]) dX4_harshness_8 (by decide) rfl ?_
  exact l_rharsh hR hc hq hr hop _ 0 (by omega) rfl 0 rfl

set_option maxHeartbeats 1000000 in
theorem l_leastCount {I : Nat → Nat → Int32} {L : Nat → Nat → Int64} {R : Nat → Nat → Option Nat} (hR : aRf R) {s : jN} (hc : cRep I s) {r : jR} (hr : rRep I r) : ∀ (k9 k : Nat), k ≤ (jS s).length → (jS s).length - k = k9 → ∀ acc : Nat, ((jCnts s r).take k).foldl min 64 = acc → acc ≤ 729 → aX mX4_leastCount aE0 (sh0, I, L, R) 5 [(0, .ref 39), (1, .int (nI acc)), (2, .int (nI k))] [] 0 0 (fun ans h' => h' = (sh0, I, L, R) ∧ ans = some (.int (nI (jLeast s r)))) := by
  intro k9
  induction k9 using Nat.strongRecOn with
  | _ k9 ih =>
    intro k hk hk9 acc hf hacc
    obtain ⟨hs, ho, h6, hS, hV⟩ := id hc
    have hn := ho.1
    have hSl := jS_len s
    refine aX_iload_n dX4_leastCount_5 rfl ?_
    refine aX_aload_n dX4_leastCount_6 rfl ?_
    refine aX_get dX4_leastCount_7 lfX4_15 s39 (f39_0 hR) ?_
    refine aX_get (v := .int (nI ((jS s).length))) dX4_leastCount_10 lfX4_51 s16 (congrArg Value.int (hS.1)) ?_
    refine nGe (tgt := 32) dX4_leastCount_13 (by decide) (by first | omega | exact Nat.lt_of_le_of_lt (Nat.mod_le _ _) (by omega)) (by first | omega | exact Nat.lt_of_le_of_lt (Nat.mod_le _ _) (by omega)) (fun c1 => ?_) (fun c1 => ?_)
    · refine aX_iload_n dX4_leastCount_32 rfl ?_
      exact rI dX4_leastCount_33 rfl (⟨rfl, by rw [← hf, List.take_of_length_le (by rw [jCnts_len]; omega)]; rfl⟩)
    · obtain ⟨q, hq⟩ : ∃ q, (jS s)[k]? = some q := ⟨_, List.getElem?_eq_getElem c1⟩
      have h729 := jCo_729 (s := s) (b := q.1) h6 hr.1
      refine aX_iload_n dX4_leastCount_16 rfl ?_
      refine aX_aload_n dX4_leastCount_17 rfl ?_
      refine aX_iload_n dX4_leastCount_18 rfl ?_
      refine cVp (As := [.int (nI (k))]) (st := [.int (nI (acc))]) (v := .int (nI (jCo s r q.1))) dX4_leastCount_19 kX4_leastCount_29 s39 aEok0 rfl rfl (Nat.le_of_ble_eq_true rfl) (c_countOf hR hc hq hr) ?_
      refine cSp (As := [.int (nI (acc)), .int (nI (jCo s r q.1))]) (st := []) (v := .int (nI (min acc (jCo s r q.1)))) dX4_leastCount_22 kX4_leastCount_55 aEok0 rfl rfl (Nat.le_of_ble_eq_true rfl) (c_min (by omega) (by omega)) ?_
      refine aX_istore_n (lv' := [(0, .ref 39), (1, .int (nI (min acc (jCo s r q.1)))), (2, .int (nI (k)))]) dX4_leastCount_25 (by decide) rfl ?_
      refine nInc (lv' := [(0, .ref 39), (1, .int (nI (min acc (jCo s r q.1)))), (2, .int (nI (k + 1)))]) dX4_leastCount_26 rfl rfl (by decide) rfl ?_
      refine aX_goto (tgt := 5) dX4_leastCount_29 (by decide) ?_
      exact ih ((jS s).length - (k + 1)) (by omega) (k + 1) (by omega) rfl _ (by rw [take_foldl (jCnts_at hq), hf]) (by omega)

set_option maxHeartbeats 1000000 in
theorem c_leastCount {I : Nat → Nat → Int32} {L : Nat → Nat → Int64} {R : Nat → Nat → Option Nat} (hR : aRf R) {s : jN} (hc : cRep I s) {r : jR} (hr : rRep I r) : aMp mX4_leastCount [.ref 39] (sh0, I, L, R) (.int (nI (jLeast s r))) := by
  refine aM_of plX4_leastCount (Nat.le_of_ble_eq_true rfl) ?_
  refine aX_bipush (v := nI 64) dX4_leastCount_0 (by decide) ?_
  refine aX_istore_n (lv' := [(0, .ref 39), (1, .int (nI (64)))]) dX4_leastCount_2 (by decide) rfl ?_
  refine aX_iconst (v := nI 0) dX4_leastCount_3 (by decide) ?_
  refine aX_istore_n (lv' := [(0, .ref 39), (1, .int (nI (64))), (2, .int (nI (0)))]) dX4_leastCount_4 (by decide) rfl ?_
  exact l_leastCount hR hc hr _ 0 (by omega) rfl 64 rfl (by decide)

set_option maxHeartbeats 1000000 in
theorem l_greatestCount {I : Nat → Nat → Int32} {L : Nat → Nat → Int64} {R : Nat → Nat → Option Nat} (hR : aRf R) {s : jN} (hc : cRep I s) {r : jR} (hr : rRep I r) : ∀ (k9 k : Nat), k ≤ (jS s).length → (jS s).length - k = k9 → ∀ acc : Nat, ((jCnts s r).take k).foldl max 0 = acc → acc ≤ 729 → aX mX4_greatestCount aE0 (sh0, I, L, R) 4 [(0, .ref 39), (1, .int (nI acc)), (2, .int (nI k))] [] 0 0 (fun ans h' => h' = (sh0, I, L, R) ∧ ans = some (.int (nI (jMost s r)))) := by
  intro k9
  induction k9 using Nat.strongRecOn with
  | _ k9 ih =>
    intro k hk hk9 acc hf hacc
    obtain ⟨hs, ho, h6, hS, hV⟩ := id hc
    have hn := ho.1
    have hSl := jS_len s
    refine aX_iload_n dX4_greatestCount_4 rfl ?_
    refine aX_aload_n dX4_greatestCount_5 rfl ?_
    refine aX_get dX4_greatestCount_6 lfX4_15 s39 (f39_0 hR) ?_
    refine aX_get (v := .int (nI ((jS s).length))) dX4_greatestCount_9 lfX4_51 s16 (congrArg Value.int (hS.1)) ?_
    refine nGe (tgt := 31) dX4_greatestCount_12 (by decide) (by first | omega | exact Nat.lt_of_le_of_lt (Nat.mod_le _ _) (by omega)) (by first | omega | exact Nat.lt_of_le_of_lt (Nat.mod_le _ _) (by omega)) (fun c1 => ?_) (fun c1 => ?_)
    · refine aX_iload_n dX4_greatestCount_31 rfl ?_
      exact rI dX4_greatestCount_32 rfl (⟨rfl, by rw [← hf, List.take_of_length_le (by rw [jCnts_len]; omega)]; rfl⟩)
    · obtain ⟨q, hq⟩ : ∃ q, (jS s)[k]? = some q := ⟨_, List.getElem?_eq_getElem c1⟩
      have h729 := jCo_729 (s := s) (b := q.1) h6 hr.1
      refine aX_iload_n dX4_greatestCount_15 rfl ?_
      refine aX_aload_n dX4_greatestCount_16 rfl ?_
      refine aX_iload_n dX4_greatestCount_17 rfl ?_
      refine cVp (As := [.int (nI (k))]) (st := [.int (nI (acc))]) (v := .int (nI (jCo s r q.1))) dX4_greatestCount_18 kX4_greatestCount_29 s39 aEok0 rfl rfl (Nat.le_of_ble_eq_true rfl) (c_countOf hR hc hq hr) ?_
      refine cSp (As := [.int (nI (acc)), .int (nI (jCo s r q.1))]) (st := []) (v := .int (nI (max acc (jCo s r q.1)))) dX4_greatestCount_21 kX4_greatestCount_60 aEok0 rfl rfl (Nat.le_of_ble_eq_true rfl) (c_max (by omega) (by omega)) ?_
      refine aX_istore_n (lv' := [(0, .ref 39), (1, .int (nI (max acc (jCo s r q.1)))), (2, .int (nI (k)))]) dX4_greatestCount_24 (by decide) rfl ?_
      refine nInc (lv' := [(0, .ref 39), (1, .int (nI (max acc (jCo s r q.1)))), (2, .int (nI (k + 1)))]) dX4_greatestCount_25 rfl rfl (by decide) rfl ?_
      refine aX_goto (tgt := 4) dX4_greatestCount_28 (by decide) ?_
      exact ih ((jS s).length - (k + 1)) (by omega) (k + 1) (by omega) rfl _ (by rw [take_foldl (jCnts_at hq), hf]) (by omega)

set_option maxHeartbeats 1000000 in
theorem c_greatestCount {I : Nat → Nat → Int32} {L : Nat → Nat → Int64} {R : Nat → Nat → Option Nat} (hR : aRf R) {s : jN} (hc : cRep I s) {r : jR} (hr : rRep I r) : aMp mX4_greatestCount [.ref 39] (sh0, I, L, R) (.int (nI (jMost s r))) := by
  refine aM_of plX4_greatestCount (Nat.le_of_ble_eq_true rfl) ?_
  refine aX_iconst (v := nI 0) dX4_greatestCount_0 (by decide) ?_
  refine aX_istore_n (lv' := [(0, .ref 39), (1, .int (nI (0)))]) dX4_greatestCount_1 (by decide) rfl ?_
  refine aX_iconst (v := nI 0) dX4_greatestCount_2 (by decide) ?_
  refine aX_istore_n (lv' := [(0, .ref 39), (1, .int (nI (0))), (2, .int (nI (0)))]) dX4_greatestCount_3 (by decide) rfl ?_
  exact l_greatestCount hR hc hr _ 0 (by omega) rfl 0 rfl (by decide)

set_option maxHeartbeats 1000000 in
theorem c_has {I : Nat → Nat → Int32} {L : Nat → Nat → Int64} {R : Nat → Nat → Option Nat} (hR : aRf R) {s : jN} (hc : cRep I s) {r : jR} (hr : rRep I r) {x y : Int32} : aMp mX4_has [.ref 39, .int x, .int y] (sh0, I, L, R) (.int (bI (jHasRd s r x y))) := by
  obtain ⟨hs, ho, h6, hS, hV⟩ := id hc
  have hn := ho.1
  have hSl := jS_len s
  refine aM_of plX4_has (Nat.le_of_ble_eq_true rfl) ?_
  refine aX_aload_n dX4_has_0 rfl ?_
  refine aX_get dX4_has_1 lfX4_15 s39 (f39_0 hR) ?_
  refine aX_iload_n dX4_has_4 rfl ?_
  refine cVp (As := [.int (x)]) (st := []) (v := .int (bI (jIx x (jS s).length))) dX4_has_5 kX4_has_23 s16 aEok0 rfl rfl (Nat.le_of_ble_eq_true rfl) (c_hasSetX hR hc) ?_
  refine bEq (tgt := 28) dX4_has_8 (by decide) (fun c1 => ?_) (fun c1 => ?_)
  · refine aX_iconst (v := nI 0) dX4_has_28 (by decide) ?_
    exact rZ dX4_has_29 rfl (Or.inl rfl) (⟨rfl, by rw [show jHasRd s r x y = false by unfold jHasRd; simp_all [Int32.not_lt]]; rfl⟩)
  · refine aX_iload_n dX4_has_11 rfl ?_
    refine aX_if_lt (tgt := 28) dX4_has_12 (by decide) (fun c2 => ?_) (fun c2 => ?_)
    · refine aX_iconst (v := nI 0) dX4_has_28 (by decide) ?_
      exact rZ dX4_has_29 rfl (Or.inl rfl) (⟨rfl, by rw [show jHasRd s r x y = false by unfold jHasRd; simp_all [Int32.not_lt]]; rfl⟩)
    · refine aX_iload_n dX4_has_15 rfl ?_
      refine aX_aload_n dX4_has_16 rfl ?_
      refine aX_iload_n dX4_has_17 rfl ?_
      refine cVp (As := [.int (x)]) (st := [.int (y)]) (v := .int (nI (jCo s r ((jS s).getD x.toNatClampNeg (0, 0)).1))) dX4_has_18 kX4_has_29 s39 aEok0 rfl rfl (Nat.le_of_ble_eq_true rfl) (by obtain ⟨k, hk, rfl⟩ := jIx_t (n := (jS s).length) (by omega) (by assumption); have hq : (jS s)[k]? = some (jS s)[k] := List.getElem?_eq_getElem hk; rw [nI_clamp (show k < 2 ^ 31 by omega), getD_of hq]; exact c_countOf hR hc hq hr) ?_
      refine aX_icmp_ge (tgt := 28) dX4_has_21 (by decide) (fun c3 => ?_) (fun c3 => ?_)
      · refine aX_iconst (v := nI 0) dX4_has_28 (by decide) ?_
        exact rZ dX4_has_29 rfl (Or.inl rfl) (⟨rfl, by rw [show jHasRd s r x y = false by unfold jHasRd; simp_all [Int32.not_lt]]; rfl⟩)
      · refine aX_iconst (v := nI 1) dX4_has_24 (by decide) ?_
        refine aX_goto (tgt := 29) dX4_has_25 (by decide) ?_
        exact rZ dX4_has_29 rfl (Or.inr rfl) (⟨rfl, by rw [show jHasRd s r x y = true by unfold jHasRd; simp_all [Int32.not_lt]]; rfl⟩)

