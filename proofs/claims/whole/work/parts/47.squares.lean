/-! THE SQUARES: matrix, right side, what is left -/
abbrev jQt : Type := (Nat → Nat → Int) × (Nat → Int) × Int
def jQ0 : jQt := (fun _ _ => 0, fun _ => 0, 0)
def jA (S : jQt) (x y : Nat) (v : Int) : jQt := (aU S.1 x y v, S.2.1, S.2.2)
def jBq (S : jQt) (x : Nat) (v : Int) : jQt := (S.1, va_up S.2.1 x v, S.2.2)
def jCq (S : jQt) (v : Int) : jQt := (S.1, S.2.1, v)
def qRep (L : Nat → Nat → Int64) (S : jQt) : Prop := (∀ i j, i < 20 → j < 20 → L (55 + i) j = lZ (S.1 i j)) ∧ (∀ i, i < 20 → L 75 i = lZ (S.2.1 i)) ∧ L 53 6 = lZ S.2.2
theorem qRep_A {L : Nat → Nat → Int64} {S : jQt} (h : qRep L S) {x y : Nat} (hx : x < 20) (v : Int) : qRep (aU L (55 + x) y (lZ v)) (jA S x y v) := by
  refine ⟨fun i j hi hj => ?_, fun i hi => ?_, ?_⟩
  · show _ = lZ (aU S.1 x y v i j)
    by_cases e : i = x ∧ j = y
    · obtain ⟨rfl, rfl⟩ := e; rw [aU_s, aU_s]
    · rw [aU_n (by omega), aU_n e]; exact h.1 i j hi hj
  · rw [aU_n (by omega)]; exact h.2.1 i hi
  · rw [aU_n (by omega)]; exact h.2.2
theorem qRep_B {L : Nat → Nat → Int64} {S : jQt} (h : qRep L S) {x : Nat} (v : Int) : qRep (aU L 75 x (lZ v)) (jBq S x v) := by
  refine ⟨fun i j hi hj => ?_, fun i hi => ?_, ?_⟩
  · rw [aU_n (by omega)]; exact h.1 i j hi hj
  · show _ = lZ (va_up S.2.1 x v i)
    by_cases e : i = x
    · subst e; rw [aU_s]; simp [va_up]
    · rw [aU_n (by omega)]; simp [va_up, e]; exact h.2.1 i hi
  · rw [aU_n (by omega)]; exact h.2.2
theorem qRep_C {L : Nat → Nat → Int64} {S : jQt} (h : qRep L S) (v : Int) : qRep (aU L 53 6 (lZ v)) (jCq S v) := by
  refine ⟨fun i j hi hj => ?_, fun i hi => ?_, ?_⟩
  · rw [aU_n (by omega)]; exact h.1 i j hi hj
  · rw [aU_n (by omega)]; exact h.2.1 i hi
  · rw [aU_s]; rfl
def jPair (S : jQt) (x y : Nat) (w t : Int) : jQt :=
  let S1 := jA S x x (S.1 x x + w)
  let S2 := jA S1 y y (S1.1 y y + w)
  let S3 := jA S2 x y (S2.1 x y - w)
  let S4 := jA S3 y x (S3.1 y x - w)
  let S5 := jBq S4 x (S4.2.1 x + w * t)
  let S6 := jBq S5 y (S5.2.1 y - w * t)
  jCq S6 (S6.2.2 + w * t * t)
theorem r54 {R : Nat → Nat → Option Nat} (hR : aRf R) : ∀ x, x < 20 → R 54 x = some (55 + x)
  | 0, _ => hR 54 0 55 rfl
  | 1, _ => hR 54 1 56 rfl
  | 2, _ => hR 54 2 57 rfl
  | 3, _ => hR 54 3 58 rfl
  | 4, _ => hR 54 4 59 rfl
  | 5, _ => hR 54 5 60 rfl
  | 6, _ => hR 54 6 61 rfl
  | 7, _ => hR 54 7 62 rfl
  | 8, _ => hR 54 8 63 rfl
  | 9, _ => hR 54 9 64 rfl
  | 10, _ => hR 54 10 65 rfl
  | 11, _ => hR 54 11 66 rfl
  | 12, _ => hR 54 12 67 rfl
  | 13, _ => hR 54 13 68 rfl
  | 14, _ => hR 54 14 69 rfl
  | 15, _ => hR 54 15 70 rfl
  | 16, _ => hR 54 16 71 rfl
  | 17, _ => hR 54 17 72 rfl
  | 18, _ => hR 54 18 73 rfl
  | 19, _ => hR 54 19 74 rfl
  | n + 20, h => absurd h (by omega)
theorem s54r {I : Nat → Nat → Int32} {L : Nat → Nat → Int64} {R : Nat → Nat → Option Nat} : ∀ x, x < 20 → aSh (sh0, I, L, R) (55 + x) = some (3, 20)
  | 0, _ => rfl
  | 1, _ => rfl
  | 2, _ => rfl
  | 3, _ => rfl
  | 4, _ => rfl
  | 5, _ => rfl
  | 6, _ => rfl
  | 7, _ => rfl
  | 8, _ => rfl
  | 9, _ => rfl
  | 10, _ => rfl
  | 11, _ => rfl
  | 12, _ => rfl
  | 13, _ => rfl
  | 14, _ => rfl
  | 15, _ => rfl
  | 16, _ => rfl
  | 17, _ => rfl
  | 18, _ => rfl
  | 19, _ => rfl
  | n + 20, h => absurd h (by omega)
set_option maxHeartbeats 1000000 in
theorem l_filll {I : Nat → Nat → Int32} {L : Nat → Nat → Int64} {R : Nat → Nat → Option Nat} {q n : Nat} (hs : ∀ I L, aSh (sh0, I, L, R) q = some (3, n)) (hn : n < 2 ^ 31) {v : Int64} : ∀ (k9 i : Nat), i ≤ n → n - i = k9 → ∀ (L1 : Nat → Nat → Int64), (∀ j, j < i → L1 q j = v) → (∀ a j, a ≠ q → L1 a j = L a j) → aX mJ7_fill_d0a16 aE0 (sh0, I, L1, R) 6 [(0, .ref (q)), (1, .long (v)), (3, .int (nI (i))), (4, .int (nI (n)))] [] 0 0 (fun ans h' => ans = none ∧ ∃ L', h' = (sh0, I, L', R) ∧ (∀ j, j < n → L' q j = v) ∧ (∀ a j, a ≠ q → L' a j = L a j)) := by
  intro k9
  induction k9 using Nat.strongRecOn with
  | _ k9 ih =>
    intro i hi hk9 L1  hd hk
    refine aX_iload_n dJ7_fill_d0a16_6 rfl ?_
    refine aX_iload dJ7_fill_d0a16_7 rfl ?_
    refine nGe (tgt := 22) dJ7_fill_d0a16_9 (by decide) (by first | omega | exact Nat.lt_of_le_of_lt (Nat.mod_le _ _) (by omega)) (by first | omega | exact Nat.lt_of_le_of_lt (Nat.mod_le _ _) (by omega)) (fun c1 => ?_) (fun c1 => ?_)
    · exact rV dJ7_fill_d0a16_22 rfl (⟨rfl, L1, rfl, fun j hj => hd j (by omega), hk⟩)
    · refine aX_aload_n dJ7_fill_d0a16_12 rfl ?_
      refine aX_iload_n dJ7_fill_d0a16_13 rfl ?_
      refine aX_lload_n dJ7_fill_d0a16_14 rfl ?_
      refine nLast dJ7_fill_d0a16_15 (hs _ _) (by omega) (by omega) ?_
      refine nInc (lv' := [(0, .ref (q)), (1, .long (v)), (3, .int (nI (i + 1))), (4, .int (nI (n)))]) dJ7_fill_d0a16_16 rfl rfl (by decide) rfl ?_
      refine aX_goto (tgt := 6) dJ7_fill_d0a16_19 (by decide) ?_
      exact ih (n - (i + 1)) (by omega) (i + 1) (by omega) rfl _ (fun j hj => by
        by_cases e : j = i
        · subst e; rw [aU_s]
        · rw [aU_n (by omega)]; exact hd j (by omega)) (fun a j hq => by rw [aU_n (by omega)]; exact hk a j hq)
set_option maxHeartbeats 1000000 in
theorem c_filll {I : Nat → Nat → Int32} {L : Nat → Nat → Int64} {R : Nat → Nat → Option Nat} {q n : Nat} (hs : ∀ I L, aSh (sh0, I, L, R) q = some (3, n)) (hn : n < 2 ^ 31) {v : Int64} : aM mJ7_fill_d0a16 [.ref q, .long v] (sh0, I, L, R) (fun ans h' => ans = none ∧ ∃ L', h' = (sh0, I, L', R) ∧ (∀ j, j < n → L' q j = v) ∧ (∀ a j, a ≠ q → L' a j = L a j)) := by
  refine aM_of plJ7_fill_d0a16 (Nat.le_of_ble_eq_true rfl) ?_
  refine aX_iconst (v := nI 0) dJ7_fill_d0a16_0 (by decide) ?_
  refine aX_istore_n (lv' := [(0, .ref (q)), (1, .long (v)), (3, .int (nI (0)))]) dJ7_fill_d0a16_1 (by decide) rfl ?_
  refine aX_aload_n dJ7_fill_d0a16_2 rfl ?_
  refine nAlen dJ7_fill_d0a16_3 (hs _ _) (by decide) ?_
  refine aX_istore (lv' := [(0, .ref (q)), (1, .long (v)), (3, .int (nI (0))), (4, .int (nI (n)))]) dJ7_fill_d0a16_4 (by decide) rfl ?_
  exact l_filll hs hn _ 0 (by omega) rfl L (fun j hj => by omega) (fun _ _ _ => rfl)
def jVn (s : jN) : Nat := (jVS s (jS s) (jS s).length).1
def jV (s : jN) (k m : Nat) : Nat := (jVS s (jS s) (jS s).length).2 k m
set_option maxHeartbeats 1000000 in
theorem l_reset {I : Nat → Nat → Int32} {L : Nat → Nat → Int64} {R : Nat → Nat → Option Nat} (hR : aRf R) {I0 : Nat → Nat → Int32} {L0 : Nat → Nat → Int64} {n : Nat} : ∀ (k9 i : Nat), i ≤ 20 → 20 - i = k9 → ∀ (L1 : Nat → Nat → Int64), I 53 4 = nI n → I 53 5 = nI 0 → (∀ a b, a < i → b < 20 → L1 (55 + a) b = lZ 0) → L1 53 6 = lZ 0 → (∀ q j, ¬ (q = 53 ∧ j = 4) → ¬ (q = 53 ∧ j = 5) → I q j = I0 q j) → lK 53 75 L0 L1 → aX mX7_reset aE0 (sh0, I, L1, R) 28 [(0, .ref 53), (1, .int (nI (i)))] [] 0 0 (fun ans h' => ans = none ∧ ∃ I' L', h' = (sh0, I', L', R) ∧ I' 53 4 = nI n ∧ I' 53 5 = nI 0 ∧ qRep L' jQ0 ∧ (∀ q j, ¬ (q = 53 ∧ j = 4) → ¬ (q = 53 ∧ j = 5) → I' q j = I0 q j) ∧ lK 53 75 L0 L') := by
  intro k9
  induction k9 using Nat.strongRecOn with
  | _ k9 ih =>
    intro i hi hk9 L1  h4 h5 hm h6 hI hl
    refine aX_iload_n dX7_reset_28 rfl ?_
    refine aX_bipush (v := nI 20) dX7_reset_29 (by decide) ?_
    refine nGe (tgt := 50) dX7_reset_31 (by decide) (by first | omega | exact Nat.lt_of_le_of_lt (Nat.mod_le _ _) (by omega)) (by first | omega | exact Nat.lt_of_le_of_lt (Nat.mod_le _ _) (by omega)) (fun c1 => ?_) (fun c1 => ?_)
    · refine aX_aload_n dX7_reset_50 rfl ?_
      refine aX_get dX7_reset_51 lfX7_16 s53 (f53_8 hR) ?_
      refine aX_lconst (v := 0) dX7_reset_54 rfl ?_
      refine cS (As := [.ref 75, .long ((0 : Int64))]) (st := []) dX7_reset_55 kX7_reset_80 aEok0 rfl rfl (Nat.le_of_ble_eq_true rfl) (c_filll (fun _ _ => s75) (by decide)) (fun r h' hq => ?_)
      obtain ⟨rfl, L3, rfl, hz, hk⟩ := hq
      refine ⟨rfl, ?_⟩
      exact rV dX7_reset_58 rfl (⟨rfl, I, L3, rfl, h4, h5, ⟨fun a b ha hb => by rw [hk _ _ (by omega)]; exact hm a b (by omega) hb, fun a ha => hz a ha, by rw [hk _ _ (by omega)]; exact h6⟩, hI, lK_trans hl (fun q j g => hk q j (by omega))⟩)
    · refine aX_aload_n dX7_reset_34 rfl ?_
      refine aX_get dX7_reset_35 lfX7_11 s53 (f53_7 hR) ?_
      refine aX_iload_n dX7_reset_38 rfl ?_
      refine nAald (r := 55 + i) dX7_reset_39 s54 (by decide) (by first | omega | exact Nat.lt_of_le_of_lt (Nat.mod_le _ _) (by omega)) (by decide) (r54 hR i (by omega)) ?_
      refine aX_lconst (v := 0) dX7_reset_40 rfl ?_
      refine cS (As := [.ref (55 + i), .long ((0 : Int64))]) (st := []) dX7_reset_41 kX7_reset_80 aEok0 rfl rfl (Nat.le_of_ble_eq_true rfl) (c_filll (fun _ _ => s54r i (by omega)) (by decide)) (fun r h' hq => ?_)
      obtain ⟨rfl, L2, rfl, hz, hk⟩ := hq
      refine ⟨rfl, ?_⟩
      refine nInc (lv' := [(0, .ref 53), (1, .int (nI (i + 1)))]) dX7_reset_44 rfl rfl (by decide) rfl ?_
      refine aX_goto (tgt := 28) dX7_reset_47 (by decide) ?_
      exact ih (20 - (i + 1)) (by omega) (i + 1) (by omega) rfl L2 h4 h5 (fun a b ha hb => by
        by_cases e : a = i
        · subst e; exact hz b hb
        · rw [hk _ _ (by omega)]; exact hm a b (by omega) hb) (by rw [hk _ _ (by omega)]; exact h6) hI (lK_trans hl (fun q j g => hk q j (by omega)))
set_option maxHeartbeats 1000000 in
theorem c_reset {I : Nat → Nat → Int32} {L : Nat → Nat → Int64} {R : Nat → Nat → Option Nat} (hR : aRf R) {s : jN} (hc : cRep I s) (hvn : jVn s ≤ 20) : aM mX7_reset [.ref 53] (sh0, I, L, R) (fun ans h' => ans = none ∧ ∃ I' L', h' = (sh0, I', L', R) ∧ I' 53 4 = nI (jVn s) ∧ I' 53 5 = nI 0 ∧ qRep L' jQ0 ∧ (∀ q j, ¬ (q = 53 ∧ j = 4) → ¬ (q = 53 ∧ j = 5) → I' q j = I q j) ∧ lK 53 75 L L') := by
  obtain ⟨hs, ho, h6, hS, hV⟩ := id hc
  have hn := ho.1
  have hSl := jS_len s
  refine aM_of plX7_reset (Nat.le_of_ble_eq_true rfl) ?_
  refine aX_aload_n dX7_reset_0 rfl ?_
  refine aX_aload_n dX7_reset_1 rfl ?_
  refine aX_get dX7_reset_2 lfX7_24 s53 (f53_0 hR) ?_
  refine aX_get (v := .int (nI (jVn s))) dX7_reset_5 lfX7_61 s16 (congrArg Value.int (hV.1)) ?_
  refine aX_bipush (v := nI 20) dX7_reset_8 (by decide) ?_
  refine cSp (As := [.int (nI (jVn s)), .int (nI (20))]) (st := [.ref 53]) (v := .int (nI (min (jVn s) 20))) dX7_reset_10 kX7_reset_64 aEok0 rfl rfl (Nat.le_of_ble_eq_true rfl) (c_min (by omega) (by omega)) ?_
  refine pI dX7_reset_13 lfX7_70 (fun _ _ _ hq => by cases hq; exact Or.inl rfl) s53 rfl ?_
  refine aX_aload_n dX7_reset_16 rfl ?_
  refine aX_iconst (v := nI 0) dX7_reset_17 (by decide) ?_
  refine pI dX7_reset_18 lfX7_73 (fun _ _ _ hq => by cases hq; exact Or.inl rfl) s53 rfl ?_
  refine aX_aload_n dX7_reset_21 rfl ?_
  refine aX_lconst (v := 0) dX7_reset_22 rfl ?_
  refine pL dX7_reset_23 lfX7_76 (fun _ _ _ hq => by cases hq; exact Or.inl rfl) s53 rfl ?_
  refine aX_iconst (v := nI 0) dX7_reset_26 (by decide) ?_
  refine aX_istore_n (lv' := [(0, .ref 53), (1, .int (nI (0)))]) dX7_reset_27 (by decide) rfl ?_
  obtain ⟨I2, hI2⟩ : ∃ z, z = (aU (aU I 53 4 (nI (min (jVn s) 20))) 53 5 (nI (0))) := ⟨_, rfl⟩
  rw [← hI2]
  obtain ⟨L2, hL2⟩ : ∃ z, z = (aU L 53 6 ((0 : Int64))) := ⟨_, rfl⟩
  rw [← hL2]
  exact l_reset (L := L) hR _ 0 (by omega) rfl L2 (by rw [hI2, aU_n (by omega), aU_s, Nat.min_eq_left hvn]) (by rw [hI2, aU_s]) (fun i j h _ => by omega) (by rw [hL2, aU_s]; rfl) (fun q j g1 g2 => by rw [hI2, aU_n (by omega), aU_n (by omega)]) (by rw [hL2]; exact lK_set lK_refl (by decide) (by decide))
set_option maxHeartbeats 1000000 in
theorem c_addPair {I : Nat → Nat → Int32} {L : Nat → Nat → Int64} {R : Nat → Nat → Option Nat} (hR : aRf R) {S : jQt} (hq : qRep L S) {n : Nat} (hn : I 53 4 = nI n) (hn20 : n ≤ 20) {x y : Nat} (hx : x < n) (hy : y < n) {wt ap : Int} : aM mX7_addPair [.ref 53, .int (nI x), .int (nI y), .long (lZ wt), .long (lZ ap)] (sh0, I, L, R) (fun ans h' => ans = none ∧ ∃ L', h' = (sh0, I, L', R) ∧ qRep L' (jPair S x y wt ap) ∧ lK 53 75 L L') := by
  have hl0 : lK 53 75 L L := lK_refl
  refine aM_of plX7_addPair (Nat.le_of_ble_eq_true rfl) ?_
  refine aX_iload_n dX7_addPair_0 rfl ?_
  refine aX_aload_n dX7_addPair_1 rfl ?_
  refine aX_get (v := .int (nI (n))) dX7_addPair_2 lfX7_70 s53 (congrArg Value.int (hn)) ?_
  refine nGe (tgt := 16) dX7_addPair_5 (by decide) (by first | omega | exact Nat.lt_of_le_of_lt (Nat.mod_le _ _) (by omega)) (by first | omega | exact Nat.lt_of_le_of_lt (Nat.mod_le _ _) (by omega)) (fun c1 => ?_) (fun c1 => ?_)
  · exact absurd c1 (by omega)
  · refine aX_iload_n dX7_addPair_8 rfl ?_
    refine aX_aload_n dX7_addPair_9 rfl ?_
    refine aX_get (v := .int (nI (n))) dX7_addPair_10 lfX7_70 s53 (congrArg Value.int (hn)) ?_
    refine nLt (tgt := 17) dX7_addPair_13 (by decide) (by first | omega | exact Nat.lt_of_le_of_lt (Nat.mod_le _ _) (by omega)) (by first | omega | exact Nat.lt_of_le_of_lt (Nat.mod_le _ _) (by omega)) (fun c2 => ?_) (fun c2 => ?_)
    · refine aX_aload_n dX7_addPair_17 rfl ?_
      refine aX_get dX7_addPair_18 lfX7_11 s53 (f53_7 hR) ?_
      refine aX_iload_n dX7_addPair_21 rfl ?_
      refine nAald (r := 55 + x) dX7_addPair_22 s54 (by decide) (by first | omega | exact Nat.lt_of_le_of_lt (Nat.mod_le _ _) (by omega)) (by decide) (r54 hR x (by omega)) ?_
      refine aX_iload_n dX7_addPair_23 rfl ?_
      refine aX_dup2_11 dX7_addPair_24 rfl rfl ?_
      refine nLald (v := lZ (S.1 x x)) dX7_addPair_25 (s54r x (by omega)) (by first | omega | exact Nat.lt_of_le_of_lt (Nat.mod_le _ _) (by omega)) (by decide) (hq.1 x x (by omega) (by omega)) ?_
      refine aX_lload_n dX7_addPair_26 rfl ?_
      refine yAdd (a := S.1 x x) (b := wt) dX7_addPair_27 (rfl) (rfl) ?_
      refine nLast dX7_addPair_28 (s54r x (by omega)) (by first | omega | exact Nat.lt_of_le_of_lt (Nat.mod_le _ _) (by omega)) (by decide) ?_
      obtain ⟨L1, hL1⟩ : ∃ z, z = (aU L (55 + x) x (lZ ((S.1 x x) + wt))) := ⟨_, rfl⟩
      rw [← hL1]
      obtain ⟨S1, hS1⟩ : ∃ z, z = jA S x x ((S.1 x x) + wt) := ⟨_, rfl⟩
      have hq1 : qRep L1 S1 := by rw [hL1, hS1]; exact qRep_A hq (by omega) _
      have hl1 : lK 53 75 L L1 := by rw [hL1]; exact lK_set hl0 (by omega) (by omega)
      refine aX_aload_n dX7_addPair_29 rfl ?_
      refine aX_get dX7_addPair_30 lfX7_11 s53 (f53_7 hR) ?_
      refine aX_iload_n dX7_addPair_33 rfl ?_
      refine nAald (r := 55 + y) dX7_addPair_34 s54 (by decide) (by first | omega | exact Nat.lt_of_le_of_lt (Nat.mod_le _ _) (by omega)) (by decide) (r54 hR y (by omega)) ?_
      refine aX_iload_n dX7_addPair_35 rfl ?_
      refine aX_dup2_11 dX7_addPair_36 rfl rfl ?_
      refine nLald (v := lZ (S1.1 y y)) dX7_addPair_37 (s54r y (by omega)) (by first | omega | exact Nat.lt_of_le_of_lt (Nat.mod_le _ _) (by omega)) (by decide) (hq1.1 y y (by omega) (by omega)) ?_
      refine aX_lload_n dX7_addPair_38 rfl ?_
      refine yAdd (a := S1.1 y y) (b := wt) dX7_addPair_39 (rfl) (rfl) ?_
      refine nLast dX7_addPair_40 (s54r y (by omega)) (by first | omega | exact Nat.lt_of_le_of_lt (Nat.mod_le _ _) (by omega)) (by decide) ?_
      obtain ⟨L2, hL2⟩ : ∃ z, z = (aU L1 (55 + y) y (lZ ((S1.1 y y) + wt))) := ⟨_, rfl⟩
      rw [← hL2]
      obtain ⟨S2, hS2⟩ : ∃ z, z = jA S1 y y ((S1.1 y y) + wt) := ⟨_, rfl⟩
      have hq2 : qRep L2 S2 := by rw [hL2, hS2]; exact qRep_A hq1 (by omega) _
      have hl2 : lK 53 75 L L2 := by rw [hL2]; exact lK_set hl1 (by omega) (by omega)
      refine aX_aload_n dX7_addPair_41 rfl ?_
      refine aX_get dX7_addPair_42 lfX7_11 s53 (f53_7 hR) ?_
      refine aX_iload_n dX7_addPair_45 rfl ?_
      refine nAald (r := 55 + x) dX7_addPair_46 s54 (by decide) (by first | omega | exact Nat.lt_of_le_of_lt (Nat.mod_le _ _) (by omega)) (by decide) (r54 hR x (by omega)) ?_
      refine aX_iload_n dX7_addPair_47 rfl ?_
      refine aX_dup2_11 dX7_addPair_48 rfl rfl ?_
      refine nLald (v := lZ (S2.1 x y)) dX7_addPair_49 (s54r x (by omega)) (by first | omega | exact Nat.lt_of_le_of_lt (Nat.mod_le _ _) (by omega)) (by decide) (hq2.1 x y (by omega) (by omega)) ?_
      refine aX_lload_n dX7_addPair_50 rfl ?_
      refine ySub (a := S2.1 x y) (b := wt) dX7_addPair_51 (rfl) (rfl) ?_
      refine nLast dX7_addPair_52 (s54r x (by omega)) (by first | omega | exact Nat.lt_of_le_of_lt (Nat.mod_le _ _) (by omega)) (by decide) ?_
      obtain ⟨L3, hL3⟩ : ∃ z, z = (aU L2 (55 + x) y (lZ ((S2.1 x y) - wt))) := ⟨_, rfl⟩
      rw [← hL3]
      obtain ⟨S3, hS3⟩ : ∃ z, z = jA S2 x y ((S2.1 x y) - wt) := ⟨_, rfl⟩
      have hq3 : qRep L3 S3 := by rw [hL3, hS3]; exact qRep_A hq2 (by omega) _
      have hl3 : lK 53 75 L L3 := by rw [hL3]; exact lK_set hl2 (by omega) (by omega)
      refine aX_aload_n dX7_addPair_53 rfl ?_
      refine aX_get dX7_addPair_54 lfX7_11 s53 (f53_7 hR) ?_
      refine aX_iload_n dX7_addPair_57 rfl ?_
      refine nAald (r := 55 + y) dX7_addPair_58 s54 (by decide) (by first | omega | exact Nat.lt_of_le_of_lt (Nat.mod_le _ _) (by omega)) (by decide) (r54 hR y (by omega)) ?_
      refine aX_iload_n dX7_addPair_59 rfl ?_
      refine aX_dup2_11 dX7_addPair_60 rfl rfl ?_
      refine nLald (v := lZ (S3.1 y x)) dX7_addPair_61 (s54r y (by omega)) (by first | omega | exact Nat.lt_of_le_of_lt (Nat.mod_le _ _) (by omega)) (by decide) (hq3.1 y x (by omega) (by omega)) ?_
      refine aX_lload_n dX7_addPair_62 rfl ?_
      refine ySub (a := S3.1 y x) (b := wt) dX7_addPair_63 (rfl) (rfl) ?_
      refine nLast dX7_addPair_64 (s54r y (by omega)) (by first | omega | exact Nat.lt_of_le_of_lt (Nat.mod_le _ _) (by omega)) (by decide) ?_
      obtain ⟨L4, hL4⟩ : ∃ z, z = (aU L3 (55 + y) x (lZ ((S3.1 y x) - wt))) := ⟨_, rfl⟩
      rw [← hL4]
      obtain ⟨S4, hS4⟩ : ∃ z, z = jA S3 y x ((S3.1 y x) - wt) := ⟨_, rfl⟩
      have hq4 : qRep L4 S4 := by rw [hL4, hS4]; exact qRep_A hq3 (by omega) _
      have hl4 : lK 53 75 L L4 := by rw [hL4]; exact lK_set hl3 (by omega) (by omega)
      refine aX_aload_n dX7_addPair_65 rfl ?_
      refine aX_get dX7_addPair_66 lfX7_16 s53 (f53_8 hR) ?_
      refine aX_iload_n dX7_addPair_69 rfl ?_
      refine aX_dup2_11 dX7_addPair_70 rfl rfl ?_
      refine nLald (v := lZ (S4.2.1 x)) dX7_addPair_71 s75 (by first | omega | exact Nat.lt_of_le_of_lt (Nat.mod_le _ _) (by omega)) (by decide) (hq4.2.1 x (by omega)) ?_
      refine aX_lload_n dX7_addPair_72 rfl ?_
      refine aX_lload dX7_addPair_73 rfl ?_
      refine yMul (a := wt) (b := ap) dX7_addPair_75 (rfl) (rfl) ?_
      refine yAdd (a := S4.2.1 x) (b := wt * ap) dX7_addPair_76 (rfl) (rfl) ?_
      refine nLast dX7_addPair_77 s75 (by first | omega | exact Nat.lt_of_le_of_lt (Nat.mod_le _ _) (by omega)) (by decide) ?_
      obtain ⟨L5, hL5⟩ : ∃ z, z = (aU L4 75 x (lZ ((S4.2.1 x) + (wt * ap)))) := ⟨_, rfl⟩
      rw [← hL5]
      obtain ⟨S5, hS5⟩ : ∃ z, z = jBq S4 x ((S4.2.1 x) + (wt * ap)) := ⟨_, rfl⟩
      have hq5 : qRep L5 S5 := by rw [hL5, hS5]; exact qRep_B hq4 _
      have hl5 : lK 53 75 L L5 := by rw [hL5]; exact lK_set hl4 (by omega) (by omega)
      refine aX_aload_n dX7_addPair_78 rfl ?_
      refine aX_get dX7_addPair_79 lfX7_16 s53 (f53_8 hR) ?_
      refine aX_iload_n dX7_addPair_82 rfl ?_
      refine aX_dup2_11 dX7_addPair_83 rfl rfl ?_
      refine nLald (v := lZ (S5.2.1 y)) dX7_addPair_84 s75 (by first | omega | exact Nat.lt_of_le_of_lt (Nat.mod_le _ _) (by omega)) (by decide) (hq5.2.1 y (by omega)) ?_
      refine aX_lload_n dX7_addPair_85 rfl ?_
      refine aX_lload dX7_addPair_86 rfl ?_
      refine yMul (a := wt) (b := ap) dX7_addPair_88 (rfl) (rfl) ?_
      refine ySub (a := S5.2.1 y) (b := wt * ap) dX7_addPair_89 (rfl) (rfl) ?_
      refine nLast dX7_addPair_90 s75 (by first | omega | exact Nat.lt_of_le_of_lt (Nat.mod_le _ _) (by omega)) (by decide) ?_
      obtain ⟨L6, hL6⟩ : ∃ z, z = (aU L5 75 y (lZ ((S5.2.1 y) - (wt * ap)))) := ⟨_, rfl⟩
      rw [← hL6]
      obtain ⟨S6, hS6⟩ : ∃ z, z = jBq S5 y ((S5.2.1 y) - (wt * ap)) := ⟨_, rfl⟩
      have hq6 : qRep L6 S6 := by rw [hL6, hS6]; exact qRep_B hq5 _
      have hl6 : lK 53 75 L L6 := by rw [hL6]; exact lK_set hl5 (by omega) (by omega)
      refine aX_aload_n dX7_addPair_91 rfl ?_
      refine aX_dup dX7_addPair_92 rfl ?_
      refine aX_get (v := .long (lZ (S6.2.2))) dX7_addPair_93 lfX7_76 s53 (congrArg Value.long (hq6.2.2)) ?_
      refine aX_lload_n dX7_addPair_96 rfl ?_
      refine aX_lload dX7_addPair_97 rfl ?_
      refine yMul (a := wt) (b := ap) dX7_addPair_99 (rfl) (rfl) ?_
      refine aX_lload dX7_addPair_100 rfl ?_
      refine yMul (a := wt * ap) (b := ap) dX7_addPair_102 (rfl) (rfl) ?_
      refine yAdd (a := S6.2.2) (b := (wt * ap) * ap) dX7_addPair_103 (rfl) (rfl) ?_
      refine pL dX7_addPair_104 lfX7_76 (fun _ _ _ hq => by cases hq; exact Or.inl rfl) s53 rfl ?_
      obtain ⟨L7, hL7⟩ : ∃ z, z = (aU L6 53 6 (lZ (S6.2.2 + ((wt * ap) * ap)))) := ⟨_, rfl⟩
      rw [← hL7]
      obtain ⟨S7, hS7⟩ : ∃ z, z = jCq S6 (S6.2.2 + ((wt * ap) * ap)) := ⟨_, rfl⟩
      have hq7 : qRep L7 S7 := by rw [hL7, hS7]; exact qRep_C hq6 _
      have hl7 : lK 53 75 L L7 := by rw [hL7]; exact lK_set hl6 (by omega) (by omega)
      exact rV dX7_addPair_107 rfl (⟨rfl, L7, rfl, by rw [show jPair S x y wt ap = S7 by subst hS7 hS6 hS5 hS4 hS3 hS2 hS1; rfl]; exact hq7, hl7⟩)
    · exact absurd c2 (by omega)
