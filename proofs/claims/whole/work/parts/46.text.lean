/-! NUMBERS IN DIGITS -/
def dVal (l : List Nat) : Nat := l.foldl (fun a d => a * 10 + d) 0
def dLsb : List Nat → Nat
  | [] => 0
  | d :: t => d + 10 * dLsb t
def isDec (l : List Nat) (X : Nat) : Prop := dVal l = X ∧ (∀ d, d ∈ l → d < 10) ∧ l ≠ [] ∧ (1 < l.length → l.head? ≠ some 0)
theorem dVal_app (l : List Nat) (d : Nat) : dVal (l ++ [d]) = dVal l * 10 + d := by unfold dVal; rw [List.foldl_append]; rfl
theorem dVal_rev : ∀ l : List Nat, dVal l.reverse = dLsb l
  | [] => rfl
  | d :: t => by rw [List.reverse_cons, dVal_app, dVal_rev t]; show _ = d + 10 * dLsb t; omega
theorem dLsb_app : ∀ (l : List Nat) (d : Nat), dLsb (l ++ [d]) = dLsb l + 10 ^ l.length * d
  | [], d => by show d + 10 * 0 = 0 + 1 * d; omega
  | e :: t, d => by
    show e + 10 * dLsb (t ++ [d]) = e + 10 * dLsb t + 10 ^ (t.length + 1) * d
    rw [dLsb_app t d, Nat.pow_succ]
    grind
theorem ten109 : 2 ^ 360 < 10 ^ 109 := by decide +kernel
def asc (l : List Nat) : List Nat := l.map (fun d => 48 + d)
/-- while digits are appended, the last one first -/
def adIn (X : Nat) (es : List Nat) (rest : Nat) : Prop := dLsb es + 10 ^ es.length * rest = X ∧ (∀ d, d ∈ es → d < 10) ∧ 1 ≤ es.length ∧ (1 < es.length → rest = 0 → es.getLast? ≠ some 0)
theorem adIn_0 (X : Nat) : adIn X [X % 10] (X / 10) := ⟨by show X % 10 + 10 * 0 + 10 ^ 1 * (X / 10) = X; omega, fun d hd => by rw [List.mem_singleton] at hd; omega, Nat.le_refl _, fun h => absurd h (by simp)⟩
theorem adIn_s {X rest : Nat} {es : List Nat} (h : adIn X es rest) (hr : rest ≠ 0) : adIn X (es ++ [rest % 10]) (rest / 10) := by
  obtain ⟨h1, h2, h3, h4⟩ := h
  refine ⟨?_, fun d hd => ?_, ?_, fun _ hz => ?_⟩
  · rw [dLsb_app, List.length_append, ← h1]
    show dLsb es + 10 ^ es.length * (rest % 10) + 10 ^ (es.length + 1) * (rest / 10) = _
    rw [Nat.pow_succ]
    have : rest = rest % 10 + 10 * (rest / 10) := by omega
    conv => rhs; rw [this]
    grind
  · rcases List.mem_append.mp hd with z | z
    · exact h2 d z
    · rw [List.mem_singleton] at z; omega
  · rw [List.length_append]; omega
  · rw [List.getLast?_concat]
    simp
    omega
theorem adIn_len {X rest : Nat} {es : List Nat} (h : adIn X es rest) (hr : rest ≠ 0) (hX : (X : Int) < jBB 12) : es.length < 109 := by
  rw [jBB_12] at hX
  rcases Nat.lt_or_ge es.length 109 with c | c
  · exact c
  · have g1 := Nat.pow_le_pow_right (show 0 < 10 by decide) c
    have g2 : 10 ^ es.length * 1 ≤ 10 ^ es.length * rest := Nat.mul_le_mul_left _ (by omega)
    have g3 := h.1
    have g4 := ten109
    omega
theorem adIn_end {X : Nat} {es : List Nat} (h : adIn X es 0) : isDec es.reverse X := by
  obtain ⟨h1, h2, h3, h4⟩ := h
  refine ⟨by rw [dVal_rev]; omega, fun d hd => h2 d (List.mem_reverse.mp hd), fun z => ?_, fun hl => ?_⟩
  · rw [List.reverse_eq_nil_iff] at z; rw [z] at h3; exact absurd h3 (by decide)
  · rw [List.head?_reverse]
    exact h4 (by rwa [List.length_reverse] at hl) rfl
def rvAt (sg : List Nat) (k j : Nat) : Nat := if j < k ∨ sg.length - 1 - j < k then sg.getD (sg.length - 1 - j) 0 else sg.getD j 0
theorem rvAt_lt {sg : List Nat} (h : ∀ d, d ∈ sg → d < 128) (k j : Nat) : rvAt sg k j < 128 := by
  have : ∀ i, sg.getD i 0 < 128 := fun i => by
    rw [List.getD_eq_getElem?_getD]
    cases e : sg[i]? with
    | none => decide
    | some d => exact h d (List.mem_of_getElem? e)
  unfold rvAt
  split <;> exact this _
set_option maxHeartbeats 1000000 in
theorem l_turn {I : Nat → Nat → Int32} {L : Nat → Nat → Int64} {R : Nat → Nat → Option Nat} (hR : aRf R) {l sg : List Nat} (hsg : ∀ d, d ∈ sg → d < 128) (hn : 1 ≤ sg.length) (hlen : l.length + sg.length ≤ 256) {v : Value} : ∀ (k9 k : Nat), k ≤ sg.length → sg.length - k = k9 → ∀ (I1 : Nat → Nat → Int32), 2 * k ≤ sg.length → (∀ j, j < sg.length → I1 38 (l.length + j) = nI (rvAt sg k j)) → (∀ q j, ¬ (q = 38 ∧ l.length ≤ j ∧ j < l.length + sg.length) → I1 q j = I q j) → aX mX8_appendSize aE0 (sh0, I1, L, R) 60 [(0, .ref 37), (1, v), (2, .int (nI (l.length))), (3, .int (nI (l.length + k))), (4, .int (nI (l.length + (sg.length - 1 - k))))] [] 0 0 (fun ans h' => ans = none ∧ ∃ I', h' = (sh0, I', L, R) ∧ (∀ j, j < sg.length → I' 38 (l.length + j) = nI (rvAt sg sg.length j)) ∧ (∀ q j, ¬ (q = 38 ∧ l.length ≤ j ∧ j < l.length + sg.length) → I' q j = I q j)) := by
  intro k9
  induction k9 using Nat.strongRecOn with
  | _ k9 ih =>
    intro k hi hk9 I1  hk2 hin hke
    have hlo := rvAt_lt hsg k k
    have hhi := rvAt_lt hsg k (sg.length - 1 - k)
    refine aX_iload_n dX8_appendSize_60 rfl ?_
    refine aX_iload dX8_appendSize_61 rfl ?_
    refine nGe (tgt := 105) dX8_appendSize_63 (by decide) (by first | omega | exact Nat.lt_of_le_of_lt (Nat.mod_le _ _) (by omega)) (by first | omega | exact Nat.lt_of_le_of_lt (Nat.mod_le _ _) (by omega)) (fun c1 => ?_) (fun c1 => ?_)
    · exact rV dX8_appendSize_105 rfl (⟨rfl, I1, rfl, fun j hj => by
        rw [hin j hj]
        unfold rvAt
        rw [if_pos (show j < sg.length ∨ _ from Or.inl hj)]
        by_cases e : j < k ∨ sg.length - 1 - j < k
        · rw [if_pos e]
        · rw [if_neg e, show sg.length - 1 - j = j by omega], hke⟩)
    · refine aX_aload_n dX8_appendSize_66 rfl ?_
      refine aX_get dX8_appendSize_67 lfX8_9 s37 (f37_0 hR) ?_
      refine aX_iload_n dX8_appendSize_70 rfl ?_
      refine nBald (v := nI (rvAt sg k k)) dX8_appendSize_71 s38 (by first | omega | exact Nat.lt_of_le_of_lt (Nat.mod_le _ _) (by omega)) (by decide) (hin k (by omega)) ?_
      refine aX_istore (lv' := [(0, .ref 37), (1, v), (2, .int (nI (l.length))), (3, .int (nI (l.length + k))), (4, .int (nI (l.length + (sg.length - 1 - k)))), (5, .int (nI (rvAt sg k k)))]) dX8_appendSize_72 (by decide) rfl ?_
      refine aX_aload_n dX8_appendSize_74 rfl ?_
      refine aX_get dX8_appendSize_75 lfX8_9 s37 (f37_0 hR) ?_
      refine aX_iload_n dX8_appendSize_78 rfl ?_
      refine aX_aload_n dX8_appendSize_79 rfl ?_
      refine aX_get dX8_appendSize_80 lfX8_9 s37 (f37_0 hR) ?_
      refine aX_iload dX8_appendSize_83 rfl ?_
      refine nBald (v := nI (rvAt sg k (sg.length - 1 - k))) dX8_appendSize_85 s38 (by first | omega | exact Nat.lt_of_le_of_lt (Nat.mod_le _ _) (by omega)) (by decide) (hin _ (by omega)) ?_
      refine nBast dX8_appendSize_86 s38 (by first | omega | exact Nat.lt_of_le_of_lt (Nat.mod_le _ _) (by omega)) (by decide) ?_
      refine aX_aload_n dX8_appendSize_87 rfl ?_
      refine aX_get dX8_appendSize_88 lfX8_9 s37 (f37_0 hR) ?_
      refine aX_iload dX8_appendSize_91 rfl ?_
      refine aX_iload dX8_appendSize_93 rfl ?_
      refine nBast dX8_appendSize_95 s38 (by first | omega | exact Nat.lt_of_le_of_lt (Nat.mod_le _ _) (by omega)) (by decide) ?_
      refine nInc (lv' := [(0, .ref 37), (1, v), (2, .int (nI (l.length))), (3, .int (nI ((l.length + k) + 1))), (4, .int (nI (l.length + (sg.length - 1 - k)))), (5, .int (nI (rvAt sg k k)))]) dX8_appendSize_96 rfl rfl (by decide) rfl ?_
      refine aX_iinc (v := (nI (l.length + (sg.length - 1 - k))) + (-1)) (lv' := [(0, .ref 37), (1, v), (2, .int (nI (l.length))), (3, .int (nI ((l.length + k) + 1))), (4, .int ((nI (l.length + (sg.length - 1 - k))) + (-1))), (5, .int (nI (rvAt sg k k)))]) dX8_appendSize_99 rfl rfl (by decide) rfl ?_
      refine aX_goto (tgt := 60) dX8_appendSize_102 (by decide) ?_
      refine aX_lv (lv' := [(0, .ref 37), (1, v), (2, .int (nI (l.length))), (3, .int (nI ((l.length + k) + 1))), (4, .int ((nI (l.length + (sg.length - 1 - k))) + (-1)))]) [0, 1, 2, 3, 4] rfl ?_
      refine aX_lv (lv' := [(0, .ref 37), (1, v), (2, .int (nI (l.length))), (3, .int (nI ((l.length + k) + 1))), (4, .int (nI (l.length + (sg.length - 1 - (k + 1)))))]) [0, 1, 2, 3, 4] (by rw [show l.length + (sg.length - 1 - k) = (l.length + (sg.length - 1 - (k + 1))) + 1 by omega, pk_m1]; rfl) ?_
      exact ih (sg.length - (k + 1)) (by omega) (k + 1) (by omega) rfl _ (by omega) (fun j hj => by
        by_cases e1 : j = sg.length - 1 - k
        · subst e1
          rw [aU_s, b8 hlo]
          unfold rvAt
          rw [if_neg (by omega), if_pos (by omega), show sg.length - 1 - (sg.length - 1 - k) = k by omega]
        · rw [aU_n (by omega)]
          by_cases e2 : j = k
          · subst e2
            rw [aU_s, b8 hhi]
            unfold rvAt
            rw [if_neg (by omega), if_pos (by omega)]
          · rw [aU_n (by omega), hin j hj]
            unfold rvAt
            by_cases e3 : j < k ∨ sg.length - 1 - j < k
            · rw [if_pos e3, if_pos (by omega)]
            · rw [if_neg e3, if_neg (by omega)]) (fun q j g => by rw [aU_n (by omega), aU_n (by omega)]; exact hke q j g)
theorem asc_lt {es : List Nat} (h : ∀ d, d ∈ es → d < 10) : ∀ d, d ∈ asc es → d < 128 := fun d hd => by
  obtain ⟨e, he, rfl⟩ := List.mem_map.mp hd
  have := h e he
  show 48 + e < 128
  omega
theorem asc_len (es : List Nat) : (asc es).length = es.length := List.length_map ..
theorem rv_get {sg : List Nat} {j c : Nat} (h : sg.reverse[j]? = some c) : c = rvAt sg sg.length j ∧ j < sg.length := by
  have hj := (List.getElem?_eq_some_iff.mp h).1
  rw [List.length_reverse] at hj
  rw [List.getElem?_reverse hj] at h
  unfold rvAt
  rw [if_pos (Or.inl hj), List.getD_eq_getElem?_getD, h]
  exact ⟨rfl, hj⟩
set_option maxHeartbeats 1000000 in
theorem l_digits {I : Nat → Nat → Int32} {L : Nat → Nat → Int64} {R : Nat → Nat → Option Nat} (hR : aRf R) {o : Nat} (ho : wSh R o) (ho6 : o < 36) {X : Nat} (hX : (X : Int) < jBB 12) {l : List Nat} (hl : tRep I l) (hl2 : l.length ≤ 120) : ∀ (k9 i : Nat), i ≤ 120 → 120 - i = k9 → ∀ (es : List Nat) (rest : Nat) (I1 : Nat → Nat → Int32), es.length = i → adIn X es rest → es.length ≤ 109 → wD I1 o (rest : Int) → rest ≤ X → tRep I1 (l ++ asc es) → (∀ q j, q ≠ o + 1 → ¬ (q = 37 ∧ j = 1) → q ≠ 38 → I1 q j = I q j) → aX mX8_appendSize aE0 (sh0, I1, L, R) 18 [(0, .ref 37), (1, .ref (o)), (2, .int (nI (l.length))), (3, .int (nI (es.length)))] [] 0 0 (fun ans h' => ans = none ∧ ∃ I' ds, h' = (sh0, I', L, R) ∧ isDec ds X ∧ ds.length ≤ 109 ∧ tRep I' (l ++ asc ds) ∧ (∀ q j, q ≠ o + 1 → ¬ (q = 37 ∧ j = 1) → q ≠ 38 → I' q j = I q j)) := by
  intro k9
  induction k9 using Nat.strongRecOn with
  | _ k9 ih =>
    intro i hi hk9 es  rest  I1  hei had hlen hd hrX ht hke
    subst hei
    have hal := asc_len es
    refine aX_iload_n dX8_appendSize_18 rfl ?_
    refine aX_sipush (v := nI 256) dX8_appendSize_19 (by decide) ?_
    refine nGe (tgt := 50) dX8_appendSize_22 (by decide) (by first | omega | exact Nat.lt_of_le_of_lt (Nat.mod_le _ _) (by omega)) (by first | omega | exact Nat.lt_of_le_of_lt (Nat.mod_le _ _) (by omega)) (fun c1 => ?_) (fun c1 => ?_)
    · exact absurd c1 (by omega)
    · refine aX_aload_n dX8_appendSize_25 rfl ?_
      refine aX_iconst (v := nI 0) dX8_appendSize_26 (by decide) ?_
      refine cVp (As := [.int (nI (0))]) (st := []) (v := .int (bI (decide ((rest : Int) = ((0 : Nat) : Int))))) dX8_appendSize_27 kX8_appendSize_45 (ho.1 _ _) aEok0 rfl rfl (Nat.le_of_ble_eq_true rfl) (c_hasSize ho hd (by omega) (by omega) (by decide)) ?_
      refine bNe (tgt := 50) dX8_appendSize_30 (by decide) (fun c2 => ?_) (fun c2 => ?_)
      · have hr0 : rest = 0 := by have := of_decide_eq_true c2; omega
        refine aX_iload_n dX8_appendSize_50 rfl ?_
        refine aX_istore_n (lv' := [(0, .ref 37), (1, .ref (o)), (2, .int (nI (l.length))), (3, .int (nI (l.length)))]) dX8_appendSize_51 (by decide) rfl ?_
        refine aX_aload_n dX8_appendSize_52 rfl ?_
        refine aX_get (v := .int (nI (l.length + es.length))) dX8_appendSize_53 lfX8_20 s37 (congrArg Value.int ((ht.1.trans (by rw [List.length_append, asc_len])))) ?_
        refine aX_iconst (v := nI 1) dX8_appendSize_56 (by decide) ?_
        refine nSub dX8_appendSize_57 (by have := had.2.2.1; omega) ?_
        refine aX_istore (lv' := [(0, .ref 37), (1, .ref (o)), (2, .int (nI (l.length))), (3, .int (nI (l.length))), (4, .int (nI (l.length + es.length - 1)))]) dX8_appendSize_58 (by decide) rfl ?_
        have hdec : isDec es.reverse X := adIn_end (by rw [show (0 : Nat) = rest by omega]; exact had)
        have hsl := asc_len es
        have h1e := had.2.2.1
        have hpre : ∀ j, j < (asc es).length → I1 38 (l.length + j) = nI (rvAt (asc es) 0 j) := fun j hj => by
          have e := List.getElem?_eq_getElem hj
          have := (ht.2.2 (l.length + j) _ (by rw [List.getElem?_append_right (by omega), Nat.add_sub_cancel_left]; exact e)).1
          rw [this]
          unfold rvAt
          rw [if_neg (by omega), List.getD_eq_getElem?_getD, e]
          rfl
        rw [show l.length + es.length - 1 = l.length + ((asc es).length - 1 - 0) by omega]
        refine aX_mono (l_turn (l := l) (sg := asc es) (v := .ref o) hR (asc_lt had.2.1) (by have := had.2.2.1; omega) (by omega) _ 0 (by omega) rfl I1 (by omega) hpre (fun _ _ _ => rfl)) (fun ans h' hq => ?_)
        obtain ⟨rfl, I4, rfl, g1, g2⟩ := hq
        refine ⟨rfl, I4, es.reverse, rfl, hdec, by rw [List.length_reverse]; exact hlen, ⟨?_, ?_, fun j c hj => ?_⟩, fun q j h1 h2 h3 => ?_⟩
        · rw [g2 37 1 (by omega), ht.1, List.length_append, List.length_append, asc_len, asc_len, List.length_reverse]
        · rw [List.length_append, asc_len, List.length_reverse]; omega
        · have hl9 := hl.2.1
          by_cases e : j < l.length
          · rw [List.getElem?_append_left e] at hj
            rw [g2 38 j (by omega)]
            exact ht.2.2 j c (by rw [List.getElem?_append_left e]; exact hj)
          · rw [List.getElem?_append_right (by omega), show asc es.reverse = (asc es).reverse by unfold asc; rw [List.map_reverse]] at hj
            obtain ⟨z1, z2⟩ := rv_get hj
            rw [show j = l.length + (j - l.length) by omega, g1 _ z2, z1]
            exact ⟨rfl, rvAt_lt (asc_lt had.2.1) _ _⟩
        · rw [g2 q j (by omega)]; exact hke q j h1 h2 h3
      · have hr0 : rest ≠ 0 := by have := of_decide_eq_false c2; omega
        have hl109 := adIn_len had hr0 hX
        refine aX_aload_n dX8_appendSize_33 rfl ?_
        refine aX_bipush (v := nI 48) dX8_appendSize_34 (by decide) ?_
        refine aX_aload_n dX8_appendSize_36 rfl ?_
        refine cV (As := []) (st := [.int (nI (48)), .ref 37]) dX8_appendSize_37 kX8_appendSize_49 (ho.1 _ _) aEok0 rfl rfl (Nat.le_of_ble_eq_true rfl) (c_dropDigit ho hd (by omega) (by omega)) (fun r h' hq => ?_)
        obtain ⟨rfl, I2, rfl, hd2, hk2⟩ := hq
        refine ⟨rfl, ?_⟩
        rw [show (((rest : Nat) : Int) % 10).toNat = rest % 10 by omega]
        rw [show ((rest : Nat) : Int) / 10 = ((rest / 10 : Nat) : Int) by omega] at hd2
        have ht2 : tRep I2 (l ++ asc es) := ⟨(hk2 37 1 (by omega)).trans ht.1, ht.2.1, fun j c hj => by rw [hk2 38 j (by omega)]; exact ht.2.2 j c hj⟩
        refine nAdd dX8_appendSize_40 ?_
        refine cV (As := [.int (nI (48 + (rest % 10)))]) (st := []) dX8_appendSize_41 kX8_appendSize_34 s37 aEok0 rfl rfl (Nat.le_of_ble_eq_true rfl) (c_tappend hR ht2 (by rw [List.length_append, asc_len]; omega) (by omega)) (fun r h' hq => ?_)
        obtain ⟨rfl, I3, rfl, ht3, hk3⟩ := hq
        refine ⟨rfl, ?_⟩
        refine nInc (lv' := [(0, .ref 37), (1, .ref (o)), (2, .int (nI (l.length))), (3, .int (nI (es.length + 1)))]) dX8_appendSize_44 rfl rfl (by decide) rfl ?_
        refine aX_goto (tgt := 18) dX8_appendSize_47 (by decide) ?_
        have ht4 : tRep I3 (l ++ asc (es ++ [rest % 10])) := by
          have : l ++ asc (es ++ [rest % 10]) = l ++ asc es ++ [48 + rest % 10] := by unfold asc; rw [List.map_append, ← List.append_assoc]; rfl
          rw [this]; exact ht3
        have hln : es.length + 1 = (es ++ [rest % 10]).length := by rw [List.length_append]; rfl
        rw [hln]
        exact ih (120 - (es.length + 1)) (by omega) (es.length + 1) (by omega) rfl _ _ _ hln.symm (adIn_s had hr0) (by omega) (fun i hi => (hk3 _ i (by omega) (by omega)).trans (hd2 i hi)) (by omega) ht4 (fun q j h1 h2 h3 => (hk3 q j h2 h3).trans ((hk2 q j h1).trans (hke q j h1 h2 h3)))
set_option maxHeartbeats 1000000 in
theorem c_appendSize {I : Nat → Nat → Int32} {L : Nat → Nat → Int64} {R : Nat → Nat → Option Nat} (hR : aRf R) {o : Nat} (ho : wSh R o) (ho6 : o < 36) {X : Nat} (hx : wD I o (X : Int)) (hX : (X : Int) < jBB 12) {l : List Nat} (hl : tRep I l) (hl2 : l.length ≤ 120) : aM mX8_appendSize [.ref 37, .ref o] (sh0, I, L, R) (fun ans h' => ans = none ∧ ∃ I' ds, h' = (sh0, I', L, R) ∧ isDec ds X ∧ ds.length ≤ 109 ∧ tRep I' (l ++ asc ds) ∧ (∀ q j, q ≠ o + 1 → ¬ (q = 37 ∧ j = 1) → q ≠ 38 → I' q j = I q j)) := by
  refine aM_of plX8_appendSize (Nat.le_of_ble_eq_true rfl) ?_
  refine aX_aload_n dX8_appendSize_0 rfl ?_
  refine aX_get (v := .int (nI (l.length))) dX8_appendSize_1 lfX8_20 s37 (congrArg Value.int (hl.1)) ?_
  refine aX_istore_n (lv' := [(0, .ref 37), (1, .ref (o)), (2, .int (nI (l.length)))]) dX8_appendSize_4 (by decide) rfl ?_
  refine aX_aload_n dX8_appendSize_5 rfl ?_
  refine aX_bipush (v := nI 48) dX8_appendSize_6 (by decide) ?_
  refine aX_aload_n dX8_appendSize_8 rfl ?_
  refine cV (As := []) (st := [.int (nI (48)), .ref 37]) dX8_appendSize_9 kX8_appendSize_49 (ho.1 _ _) aEok0 rfl rfl (Nat.le_of_ble_eq_true rfl) (c_dropDigit ho hx (by omega) hX) (fun r h' hq => ?_)
  obtain ⟨rfl, I2, rfl, hd2, hk2⟩ := hq
  refine ⟨rfl, ?_⟩
  rw [show (((X : Nat) : Int) % 10).toNat = X % 10 by omega]
  rw [show ((X : Nat) : Int) / 10 = ((X / 10 : Nat) : Int) by omega] at hd2
  have ht2 : tRep I2 l := ⟨(hk2 37 1 (by omega)).trans hl.1, hl.2.1, fun j c hj => by rw [hk2 38 j (by omega)]; exact hl.2.2 j c hj⟩
  refine nAdd dX8_appendSize_12 ?_
  refine cV (As := [.int (nI (48 + (X % 10)))]) (st := []) dX8_appendSize_13 kX8_appendSize_34 s37 aEok0 rfl rfl (Nat.le_of_ble_eq_true rfl) (c_tappend hR ht2 (by omega) (by omega)) (fun r h' hq => ?_)
  obtain ⟨rfl, I3, rfl, ht3, hk3⟩ := hq
  refine ⟨rfl, ?_⟩
  refine aX_iconst (v := nI 1) dX8_appendSize_16 (by decide) ?_
  refine aX_istore_n (lv' := [(0, .ref 37), (1, .ref (o)), (2, .int (nI (l.length))), (3, .int (nI (1)))]) dX8_appendSize_17 (by decide) rfl ?_
  exact l_digits hR ho ho6 hX hl hl2 _ 1 (by omega) rfl [X % 10] (X / 10) I3 rfl (adIn_0 X) (by simp) (fun i hi => (hk3 _ i (by omega) (by omega)).trans (hd2 i hi)) (Nat.div_le_self _ _) ht3 (fun q j h1 h2 h3 => (hk3 q j h2 h3).trans (hk2 q j h1))
def isTx (l : List Nat) (ng : Bool) (x y : Nat) : Prop := ∃ d1 d2, isDec d1 x ∧ isDec d2 y ∧ l = (if ng then [45] else []) ++ asc d1 ++ (if y = 1 then [] else 47 :: asc d2)
theorem isDec_1 : isDec [1] 1 := ⟨rfl, fun d hd => by rw [List.mem_singleton] at hd; omega, by simp, by simp⟩
set_option maxHeartbeats 1000000 in
theorem c_write {I : Nat → Nat → Int32} {L : Nat → Nat → Int64} {R : Nat → Nat → Option Nat} (hR : aRf R) {X Y : Nat} {n1 : Bool} (h29 : wR I 29 (X : Int) n1) (h31 : wR I 31 (Y : Int) false) (hY0 : 0 < Y) (hX : (X : Int) < jBB 12) (hY : (Y : Int) < jBB 12) : aM mX8_write [.ref 37, .ref 28] (sh0, I, L, R) (fun ans h' => ∃ l I', h' = (sh0, I', L, R) ∧ ans = some (.int (nI l.length)) ∧ isTx l n1 (X / Nat.gcd X Y) (Y / Nat.gcd X Y) ∧ tRep I' l ∧ (∀ q j, (q < 29 ∨ 38 < q) → I' q j = I q j)) := by
  refine aM_of plX8_write (Nat.le_of_ble_eq_true rfl) ?_
  refine aX_aload_n dX8_write_0 rfl ?_
  refine cV (As := []) (st := []) dX8_write_1 kX8_write_15 s28 aEok0 rfl rfl (Nat.le_of_ble_eq_true rfl) (c_lowest hR h29 h31 hY0 hX hY) (fun r h' hq => ?_)
  obtain ⟨rfl, I1, rfl, k29, k31, hf⟩ := hq
  refine ⟨rfl, ?_⟩
  obtain ⟨x, hx⟩ : ∃ x, x = X / Nat.gcd X Y := ⟨_, rfl⟩
  obtain ⟨y, hy⟩ : ∃ y, y = Y / Nat.gcd X Y := ⟨_, rfl⟩
  have hxX : x ≤ X := by rw [hx]; exact Nat.div_le_self _ _
  have hyY : y ≤ Y := by rw [hy]; exact Nat.div_le_self _ _
  rw [← hx] at k29 ⊢
  rw [← hy] at k31 ⊢
  refine aX_aload_n dX8_write_4 rfl ?_
  refine aX_iconst (v := nI 0) dX8_write_5 (by decide) ?_
  refine pI dX8_write_6 lfX8_20 (fun _ _ _ hq => by cases hq; exact Or.inl rfl) s37 rfl ?_
  obtain ⟨I2, hI2⟩ : ∃ z, z = aU I1 37 1 (nI 0) := ⟨_, rfl⟩
  rw [← hI2]
  have ht0 : tRep I2 [] := ⟨by rw [hI2, aU_s]; rfl, by simp, fun j c hj => by cases hj⟩
  have g29 : wR I2 29 ((x : Nat) : Int) n1 := ⟨fun i hi => by rw [hI2, aU_n (by omega)]; exact k29.1 i hi, by rw [hI2, aU_n (by omega)]; exact k29.2⟩
  have g31 : wR I2 31 ((y : Nat) : Int) false := ⟨fun i hi => by rw [hI2, aU_n (by omega)]; exact k31.1 i hi, by rw [hI2, aU_n (by omega)]; exact k31.2⟩
  have hke2 : ∀ q j, (q < 29 ∨ 38 < q) → I2 q j = I q j := fun q j g => by rw [hI2, aU_n (by omega)]; exact hf q j (by omega)
  refine aX_aload_n dX8_write_9 rfl ?_
  refine aX_get dX8_write_10 lfX8_24 s28 (f28_0 hR) ?_
  refine aX_get (v := .int (bI (n1))) dX8_write_13 lfX8_28 s29 (congrArg Value.int (g29.2)) ?_
  refine bEq (tgt := 25) dX8_write_16 (by decide) (fun c1 => ?_) (fun c1 => ?_)
  · subst c1
    refine aX_aload_n dX8_write_25 rfl ?_
    refine aX_aload_n dX8_write_26 rfl ?_
    refine aX_get dX8_write_27 lfX8_24 s28 (f28_0 hR) ?_
    refine cV (As := [.ref 29]) (st := []) dX8_write_30 kX8_write_38 s37 aEok0 rfl rfl (Nat.le_of_ble_eq_true rfl) (c_appendSize hR (w29 hR) (by decide) g29.1 (by omega) ht0 (by simp)) (fun r h' hq => ?_)
    obtain ⟨rfl, I3, d29, rfl, hdc29, hln29, ht3, hk3⟩ := hq
    refine ⟨rfl, ?_⟩
    have hal29 := asc_len d29
    have hke3 : ∀ q j, (q < 29 ∨ 38 < q) → I3 q j = I q j := fun q j g => (hk3 q j (by omega) (by omega) (by omega)).trans (hke2 q j g)
    have g31_3 : wR I3 31 ((y : Nat) : Int) false := ⟨fun i hi => (hk3 _ i (by omega) (by omega) (by omega)).trans (g31.1 i hi), (hk3 _ 1 (by omega) (by omega) (by omega)).trans g31.2⟩
    refine aX_aload_n dX8_write_33 rfl ?_
    refine aX_get dX8_write_34 lfX8_42 s28 (f28_1 hR) ?_
    refine aX_iconst (v := nI 1) dX8_write_37 (by decide) ?_
    refine cVp (As := [.int (nI (1))]) (st := []) (v := .int (bI (decide ((y : Int) = ((1 : Nat) : Int))))) dX8_write_38 kX8_write_45 s31 aEok0 rfl rfl (Nat.le_of_ble_eq_true rfl) (c_hasSize (w31 hR) g31_3.1 (by omega) (by omega) (by decide)) ?_
    refine bNe (tgt := 58) dX8_write_41 (by decide) (fun c2 => ?_) (fun c2 => ?_)
    · have hy1 : y = 1 := by have := of_decide_eq_true c2; omega
      refine aX_aload_n dX8_write_58 rfl ?_
      refine aX_get (v := .int (nI (List.length ([] ++ asc d29)))) dX8_write_59 lfX8_20 s37 (congrArg Value.int (ht3.1)) ?_
      exact rI dX8_write_62 rfl (⟨([] ++ asc d29), I3, rfl, rfl, ⟨d29, [1], hdc29, by rw [hy1]; exact isDec_1, by simp [hy1]⟩, ht3, hke3⟩)
    · have hy1 : y ≠ 1 := by have := of_decide_eq_false c2; omega
      refine aX_aload_n dX8_write_44 rfl ?_
      refine aX_bipush (v := nI 47) dX8_write_45 (by decide) ?_
      refine cV (As := [.int (nI (47))]) (st := []) dX8_write_47 kX8_write_34 s37 aEok0 rfl rfl (Nat.le_of_ble_eq_true rfl) (c_tappend hR ht3 (by simp; omega) (by decide)) (fun r h' hq => ?_)
      obtain ⟨rfl, I4, rfl, ht4, hk4⟩ := hq
      refine ⟨rfl, ?_⟩
      have hke4 : ∀ q j, (q < 29 ∨ 38 < q) → I4 q j = I q j := fun q j g => (hk4 q j (by omega) (by omega)).trans (hke3 q j g)
      have g31_4 : wR I4 31 ((y : Nat) : Int) false := ⟨fun i hi => (hk4 _ i (by omega) (by omega)).trans (g31_3.1 i hi), (hk4 _ 1 (by omega) (by omega)).trans g31_3.2⟩
      refine aX_aload_n dX8_write_50 rfl ?_
      refine aX_aload_n dX8_write_51 rfl ?_
      refine aX_get dX8_write_52 lfX8_42 s28 (f28_1 hR) ?_
      refine cV (As := [.ref 31]) (st := []) dX8_write_55 kX8_write_38 s37 aEok0 rfl rfl (Nat.le_of_ble_eq_true rfl) (c_appendSize hR (w31 hR) (by decide) g31_4.1 (by omega) ht4 (by simp; omega)) (fun r h' hq => ?_)
      obtain ⟨rfl, I5, d31, rfl, hdc31, hln31, ht5, hk5⟩ := hq
      refine ⟨rfl, ?_⟩
      have hal31 := asc_len d31
      have hke5 : ∀ q j, (q < 29 ∨ 38 < q) → I5 q j = I q j := fun q j g => (hk5 q j (by omega) (by omega) (by omega)).trans (hke4 q j g)
      refine aX_aload_n dX8_write_58 rfl ?_
      refine aX_get (v := .int (nI (List.length ((([] ++ asc d29) ++ [47]) ++ asc d31)))) dX8_write_59 lfX8_20 s37 (congrArg Value.int (ht5.1)) ?_
      exact rI dX8_write_62 rfl (⟨((([] ++ asc d29) ++ [47]) ++ asc d31), I5, rfl, rfl, ⟨d29, d31, hdc29, hdc31, by simp [hy1]⟩, ht5, hke5⟩)
  · subst c1
    refine aX_aload_n dX8_write_19 rfl ?_
    refine aX_bipush (v := nI 45) dX8_write_20 (by decide) ?_
    refine cV (As := [.int (nI (45))]) (st := []) dX8_write_22 kX8_write_34 s37 aEok0 rfl rfl (Nat.le_of_ble_eq_true rfl) (c_tappend hR ht0 (by simp) (by decide)) (fun r h' hq => ?_)
    obtain ⟨rfl, I3, rfl, ht3, hk3⟩ := hq
    refine ⟨rfl, ?_⟩
    have hke3 : ∀ q j, (q < 29 ∨ 38 < q) → I3 q j = I q j := fun q j g => (hk3 q j (by omega) (by omega)).trans (hke2 q j g)
    have g29_3 : wR I3 29 ((x : Nat) : Int) true := ⟨fun i hi => (hk3 _ i (by omega) (by omega)).trans (g29.1 i hi), (hk3 _ 1 (by omega) (by omega)).trans g29.2⟩
    have g31_3 : wR I3 31 ((y : Nat) : Int) false := ⟨fun i hi => (hk3 _ i (by omega) (by omega)).trans (g31.1 i hi), (hk3 _ 1 (by omega) (by omega)).trans g31.2⟩
    refine aX_aload_n dX8_write_25 rfl ?_
    refine aX_aload_n dX8_write_26 rfl ?_
    refine aX_get dX8_write_27 lfX8_24 s28 (f28_0 hR) ?_
    refine cV (As := [.ref 29]) (st := []) dX8_write_30 kX8_write_38 s37 aEok0 rfl rfl (Nat.le_of_ble_eq_true rfl) (c_appendSize hR (w29 hR) (by decide) g29_3.1 (by omega) ht3 (by simp)) (fun r h' hq => ?_)
    obtain ⟨rfl, I4, d29, rfl, hdc29, hln29, ht4, hk4⟩ := hq
    refine ⟨rfl, ?_⟩
    have hal29 := asc_len d29
    have hke4 : ∀ q j, (q < 29 ∨ 38 < q) → I4 q j = I q j := fun q j g => (hk4 q j (by omega) (by omega) (by omega)).trans (hke3 q j g)
    have g31_4 : wR I4 31 ((y : Nat) : Int) false := ⟨fun i hi => (hk4 _ i (by omega) (by omega) (by omega)).trans (g31_3.1 i hi), (hk4 _ 1 (by omega) (by omega) (by omega)).trans g31_3.2⟩
    refine aX_aload_n dX8_write_33 rfl ?_
    refine aX_get dX8_write_34 lfX8_42 s28 (f28_1 hR) ?_
    refine aX_iconst (v := nI 1) dX8_write_37 (by decide) ?_
    refine cVp (As := [.int (nI (1))]) (st := []) (v := .int (bI (decide ((y : Int) = ((1 : Nat) : Int))))) dX8_write_38 kX8_write_45 s31 aEok0 rfl rfl (Nat.le_of_ble_eq_true rfl) (c_hasSize (w31 hR) g31_4.1 (by omega) (by omega) (by decide)) ?_
    refine bNe (tgt := 58) dX8_write_41 (by decide) (fun c3 => ?_) (fun c3 => ?_)
    · have hy1 : y = 1 := by have := of_decide_eq_true c3; omega
      refine aX_aload_n dX8_write_58 rfl ?_
      refine aX_get (v := .int (nI (List.length (([] ++ [45]) ++ asc d29)))) dX8_write_59 lfX8_20 s37 (congrArg Value.int (ht4.1)) ?_
      exact rI dX8_write_62 rfl (⟨(([] ++ [45]) ++ asc d29), I4, rfl, rfl, ⟨d29, [1], hdc29, by rw [hy1]; exact isDec_1, by simp [hy1]⟩, ht4, hke4⟩)
    · have hy1 : y ≠ 1 := by have := of_decide_eq_false c3; omega
      refine aX_aload_n dX8_write_44 rfl ?_
      refine aX_bipush (v := nI 47) dX8_write_45 (by decide) ?_
      refine cV (As := [.int (nI (47))]) (st := []) dX8_write_47 kX8_write_34 s37 aEok0 rfl rfl (Nat.le_of_ble_eq_true rfl) (c_tappend hR ht4 (by simp; omega) (by decide)) (fun r h' hq => ?_)
      obtain ⟨rfl, I5, rfl, ht5, hk5⟩ := hq
      refine ⟨rfl, ?_⟩
      have hke5 : ∀ q j, (q < 29 ∨ 38 < q) → I5 q j = I q j := fun q j g => (hk5 q j (by omega) (by omega)).trans (hke4 q j g)
      have g31_5 : wR I5 31 ((y : Nat) : Int) false := ⟨fun i hi => (hk5 _ i (by omega) (by omega)).trans (g31_4.1 i hi), (hk5 _ 1 (by omega) (by omega)).trans g31_4.2⟩
      refine aX_aload_n dX8_write_50 rfl ?_
      refine aX_aload_n dX8_write_51 rfl ?_
      refine aX_get dX8_write_52 lfX8_42 s28 (f28_1 hR) ?_
      refine cV (As := [.ref 31]) (st := []) dX8_write_55 kX8_write_38 s37 aEok0 rfl rfl (Nat.le_of_ble_eq_true rfl) (c_appendSize hR (w31 hR) (by decide) g31_5.1 (by omega) ht5 (by simp; omega)) (fun r h' hq => ?_)
      obtain ⟨rfl, I6, d31, rfl, hdc31, hln31, ht6, hk6⟩ := hq
      refine ⟨rfl, ?_⟩
      have hal31 := asc_len d31
      have hke6 : ∀ q j, (q < 29 ∨ 38 < q) → I6 q j = I q j := fun q j g => (hk6 q j (by omega) (by omega) (by omega)).trans (hke5 q j g)
      refine aX_aload_n dX8_write_58 rfl ?_
      refine aX_get (v := .int (nI (List.length (((([] ++ [45]) ++ asc d29) ++ [47]) ++ asc d31)))) dX8_write_59 lfX8_20 s37 (congrArg Value.int (ht6.1)) ?_
      exact rI dX8_write_62 rfl (⟨(((([] ++ [45]) ++ asc d29) ++ [47]) ++ asc d31), I6, rfl, rfl, ⟨d29, d31, hdc29, hdc31, by simp [hy1]⟩, ht6, hke6⟩)
