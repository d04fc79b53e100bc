/-! THE SQUARES: gathered; the last ones -/
def gK (I I' : Nat → Nat → Int32) : Prop := ∀ q j, ¬ (q = 16 ∧ j = 13) → q ≠ 27 → q ≠ 40 → ¬ (q = 53 ∧ (j = 4 ∨ j = 5)) → q ≠ 76 → I' q j = I q j
theorem gK_refl {I : Nat → Nat → Int32} : gK I I := fun _ _ _ _ _ _ _ => rfl
theorem gK_trans {I I1 I2 : Nat → Nat → Int32} (h : gK I I1) (k : gK I1 I2) : gK I I2 := fun q j a b c d e => (k q j a b c d e).trans (h q j a b c d e)
theorem gK_hK {I I1 : Nat → Nat → Int32} (h : hK 40 40 I I1) : gK I I1 := fun q j a b c _ _ => h q j a b (by omega)
def laRep (I : Nat → Nat → Int32) (l : Nat → Nat) (n : Nat) : Prop := ∀ x, x < n → I 76 x = nI (l x) ∧ l x < 20
def jPlF (A : Nat → Nat → Int) (l : Nat → Nat) (x : Nat) : Nat → Nat
  | 0 => l x
  | y + 1 => if A x y ≠ 0 then max (jPlF A l x y) (l y) else jPlF A l x y
def jPs (A : Nat → Nat → Int) (n : Nat) (l : Nat → Nat) : Nat → (Nat → Nat) × Bool
  | 0 => (l, false)
  | i + 1 => (va_up (jPs A n l i).1 i (jPlF A (jPs A n l i).1 i n), (jPs A n l i).2 || decide (jPlF A (jPs A n l i).1 i n ≠ (jPs A n l i).1 i))
def jPass (A : Nat → Nat → Int) (n : Nat) : Nat → (Nat → Nat) × Bool
  | 0 => (fun x => x, true)
  | t + 1 => if (jPass A n t).2 then jPs A n (jPass A n t).1 n else jPass A n t
def jLa (A : Nat → Nat → Int) (n : Nat) : Nat → Nat := (jPass A n n).1
theorem jPass_stop {A : Nat → Nat → Int} {n t : Nat} (h : (jPass A n t).2 = false) : ∀ k, jPass A n (t + k) = jPass A n t
  | 0 => rfl
  | k + 1 => by
    have e := jPass_stop h k
    show (if (jPass A n (t + k)).2 then jPs A n (jPass A n (t + k)).1 n else jPass A n (t + k)) = _
    rw [e, h]; rfl
theorem jPlF_lt {A : Nat → Nat → Int} {l : Nat → Nat} {x n : Nat} (hl : ∀ y, y < n → l y < 20) (hx : x < n) : ∀ y, y ≤ n → jPlF A l x y < 20
  | 0, _ => hl x hx
  | y + 1, h => by
    have h1 := jPlF_lt (A := A) hl hx y (by omega)
    have h2 := hl y (by omega)
    show (if A x y ≠ 0 then max (jPlF A l x y) (l y) else jPlF A l x y) < 20
    split
    · exact Nat.max_lt.mpr ⟨h1, h2⟩
    · exact h1
theorem bI_or (a b : Bool) : bI a ||| bI b = bI (a || b) := by cases a <;> cases b <;> rfl
theorem laRep_set {I : Nat → Nat → Int32} {l : Nat → Nat} {n x v : Nat} (h : laRep I l n) (hv : v < 20) : laRep (aU I 76 x (nI v)) (va_up l x v) n := fun y hy => by
  by_cases e : y = x
  · subst e; rw [aU_s]; simp [va_up, hv]
  · rw [aU_n (by omega)]; simp [va_up, e]; exact h y hy
def jFixM (A : Nat → Nat → Int) (x y : Nat) : Nat → Nat → Int := fun i j => if (i = x ∧ j < y) ∨ (j = x ∧ i < y) then 0 else A i j
def jFix (S : jQt) (n x : Nat) : jQt := (aU (jFixM S.1 x n) x x 1, va_up S.2.1 x 0, S.2.2)
def jFx (S : jQt) (n : Nat) (l : Nat → Nat) : Nat → jQt
  | 0 => S
  | x + 1 => if l x = x then jFix (jFx S n l x) n x else jFx S n l x
def jLoose (l : Nat → Nat) (n : Nat) : Nat := jCnt (fun x => decide (l x = x)) n
theorem qRep_e {L : Nat → Nat → Int64} {S S' : jQt} (h : qRep L S) (h1 : ∀ i j, i < 20 → j < 20 → S'.1 i j = S.1 i j) (h2 : S'.2 = S.2) : qRep L S' := ⟨fun i j hi hj => by rw [h1 i j hi hj]; exact h.1 i j hi hj, fun i hi => by rw [h2]; exact h.2.1 i hi, by rw [h2]; exact h.2.2⟩
set_option maxHeartbeats 1000000 in
theorem l_pull {I : Nat → Nat → Int32} {L : Nat → Nat → Int64} {R : Nat → Nat → Option Nat} (hR : aRf R) {S : jQt} (hq : qRep L S) {n : Nat} (hn : I 53 4 = nI n) (hn20 : n ≤ 20) (hbd : ∀ i j, i < n → j < n → -9223372036854775808 ≤ S.1 i j ∧ S.1 i j < 9223372036854775808) {l : Nat → Nat} (hl : laRep I l n) {x : Nat} (hx : x < n) : ∀ (k9 y : Nat), y ≤ n → n - y = k9 → ∀ (v : Nat), v = jPlF S.1 l x y → aX mX7_pullLast aE0 (sh0, I, L, R) 9 [(0, .ref 53), (1, .int (nI (x))), (2, .int (nI (v))), (3, .int (nI (y)))] [] 0 0 (fun ans h' => ans = some (.int (bI (decide (jPlF S.1 l x n ≠ l x)))) ∧ h' = (sh0, aU I 76 x (nI (jPlF S.1 l x n)), L, R)) := by
  intro k9
  induction k9 using Nat.strongRecOn with
  | _ k9 ih =>
    intro y hi hk9 v  hv
    have hx20 := (hl x hx).2
    have hpl := jPlF_lt (A := S.1) (fun y hy => (hl y hy).2) hx y hi
    have hly : y < n → l y < 20 := fun h => (hl y h).2
    refine aX_iload_n dX7_pullLast_9 rfl ?_
    refine aX_aload_n dX7_pullLast_10 rfl ?_
    refine aX_get (v := .int (nI (n))) dX7_pullLast_11 lfX7_70 s53 (congrArg Value.int (hn)) ?_
    refine nGe (tgt := 47) dX7_pullLast_14 (by decide) (by first | omega | exact Nat.lt_of_le_of_lt (Nat.mod_le _ _) (by omega)) (by first | omega | exact Nat.lt_of_le_of_lt (Nat.mod_le _ _) (by omega)) (fun c1 => ?_) (fun c1 => ?_)
    · obtain rfl : y = n := by omega
      have hv' := hv
      refine aX_iload_n dX7_pullLast_47 rfl ?_
      refine aX_aload_n dX7_pullLast_48 rfl ?_
      refine aX_get dX7_pullLast_49 lfX7_20 s53 (f53_9 hR) ?_
      refine aX_iload_n dX7_pullLast_52 rfl ?_
      refine nIald (v := nI (l x)) dX7_pullLast_53 s76 (by first | omega | exact Nat.lt_of_le_of_lt (Nat.mod_le _ _) (by omega)) (by decide) ((hl x (by omega)).1) ?_
      refine nEq (tgt := 61) dX7_pullLast_54 (by decide) (by first | omega | exact Nat.lt_of_le_of_lt (Nat.mod_le _ _) (by omega)) (by first | omega | exact Nat.lt_of_le_of_lt (Nat.mod_le _ _) (by omega)) (fun c2 => ?_) (fun c2 => ?_)
      · refine aX_iconst (v := nI 0) dX7_pullLast_61 (by decide) ?_
        refine aX_istore_n (lv' := [(0, .ref 53), (1, .int (nI (x))), (2, .int (nI (v))), (3, .int (nI (0)))]) dX7_pullLast_62 (by decide) rfl ?_
        refine aX_aload_n dX7_pullLast_63 rfl ?_
        refine aX_get dX7_pullLast_64 lfX7_20 s53 (f53_9 hR) ?_
        refine aX_iload_n dX7_pullLast_67 rfl ?_
        refine aX_iload_n dX7_pullLast_68 rfl ?_
        refine nIast dX7_pullLast_69 s76 (by first | omega | exact Nat.lt_of_le_of_lt (Nat.mod_le _ _) (by omega)) (by decide) ?_
        refine aX_iload_n dX7_pullLast_70 rfl ?_
        exact rZ dX7_pullLast_71 rfl (Or.inl rfl) (⟨by rw [← hv', show decide (v ≠ l x) = false by simp; omega]; rfl, by rw [← hv']⟩)
      · refine aX_iconst (v := nI 1) dX7_pullLast_57 (by decide) ?_
        refine aX_goto (tgt := 62) dX7_pullLast_58 (by decide) ?_
        refine aX_istore_n (lv' := [(0, .ref 53), (1, .int (nI (x))), (2, .int (nI (v))), (3, .int (nI (1)))]) dX7_pullLast_62 (by decide) rfl ?_
        refine aX_aload_n dX7_pullLast_63 rfl ?_
        refine aX_get dX7_pullLast_64 lfX7_20 s53 (f53_9 hR) ?_
        refine aX_iload_n dX7_pullLast_67 rfl ?_
        refine aX_iload_n dX7_pullLast_68 rfl ?_
        refine nIast dX7_pullLast_69 s76 (by first | omega | exact Nat.lt_of_le_of_lt (Nat.mod_le _ _) (by omega)) (by decide) ?_
        refine aX_iload_n dX7_pullLast_70 rfl ?_
        exact rZ dX7_pullLast_71 rfl (Or.inr rfl) (⟨by rw [← hv', show decide (v ≠ l x) = true by simp; omega]; rfl, by rw [← hv']⟩)
    · refine aX_aload_n dX7_pullLast_17 rfl ?_
      refine aX_get dX7_pullLast_18 lfX7_11 s53 (f53_7 hR) ?_
      refine aX_iload_n dX7_pullLast_21 rfl ?_
      refine nAald (r := 55 + x) dX7_pullLast_22 s54 (by decide) (by first | omega | exact Nat.lt_of_le_of_lt (Nat.mod_le _ _) (by omega)) (by decide) (r54 hR x (by omega)) ?_
      refine aX_iload_n dX7_pullLast_23 rfl ?_
      refine nLald (v := lZ (S.1 x y)) dX7_pullLast_24 (s54r x (by omega)) (by first | omega | exact Nat.lt_of_le_of_lt (Nat.mod_le _ _) (by omega)) (by decide) (hq.1 x y (by omega) (by omega)) ?_
      refine aX_lconst (v := lN 0) dX7_pullLast_25 rfl ?_
      refine aX_lcmp dX7_pullLast_26 ?_
      refine lIf_eq (tgt := 41) dX7_pullLast_27 (by decide) (fun c3 => ?_) (fun c3 => ?_)
      · have hz : S.1 x y = 0 := (lZ_eq (hbd x y hx (by omega)).1 (hbd x y hx (by omega)).2 (by decide) (by decide)).mp ((c3).trans (kZ 0))
        refine nInc (lv' := [(0, .ref 53), (1, .int (nI (x))), (2, .int (nI (v))), (3, .int (nI (y + 1)))]) dX7_pullLast_41 rfl rfl (by decide) rfl ?_
        refine aX_goto (tgt := 9) dX7_pullLast_44 (by decide) ?_
        exact ih (n - (y + 1)) (by omega) (y + 1) (by omega) rfl _ (by first | (show _ = (if _ then _ else _); rw [if_pos hz, hv]) | (show _ = (if _ then _ else _); rw [if_neg (fun h => h hz)]; exact hv))
      · have hz : S.1 x y ≠ 0 := fun e => c3 ((congrArg lZ e).trans (kZ 0).symm)
        refine aX_iload_n dX7_pullLast_30 rfl ?_
        refine aX_aload_n dX7_pullLast_31 rfl ?_
        refine aX_get dX7_pullLast_32 lfX7_20 s53 (f53_9 hR) ?_
        refine aX_iload_n dX7_pullLast_35 rfl ?_
        refine nIald (v := nI (l y)) dX7_pullLast_36 s76 (by first | omega | exact Nat.lt_of_le_of_lt (Nat.mod_le _ _) (by omega)) (by decide) ((hl y (by omega)).1) ?_
        refine cSp (As := [.int (nI (v)), .int (nI (l y))]) (st := []) (v := .int (nI (max (v) (l y)))) dX7_pullLast_37 kX7_pullLast_136 aEok0 rfl rfl (Nat.le_of_ble_eq_true rfl) (c_max (by omega) (by omega)) ?_
        refine aX_istore_n (lv' := [(0, .ref 53), (1, .int (nI (x))), (2, .int (nI (max (v) (l y)))), (3, .int (nI (y)))]) dX7_pullLast_40 (by decide) rfl ?_
        refine nInc (lv' := [(0, .ref 53), (1, .int (nI (x))), (2, .int (nI (max (v) (l y)))), (3, .int (nI (y + 1)))]) dX7_pullLast_41 rfl rfl (by decide) rfl ?_
        refine aX_goto (tgt := 9) dX7_pullLast_44 (by decide) ?_
        exact ih (n - (y + 1)) (by omega) (y + 1) (by omega) rfl _ (by first | (show _ = (if _ then _ else _); rw [if_pos hz, hv]) | (show _ = (if _ then _ else _); rw [if_neg (fun h => h hz)]; exact hv))
set_option maxHeartbeats 1000000 in
theorem c_pullLast {I : Nat → Nat → Int32} {L : Nat → Nat → Int64} {R : Nat → Nat → Option Nat} (hR : aRf R) {S : jQt} (hq : qRep L S) {n : Nat} (hn : I 53 4 = nI n) (hn20 : n ≤ 20) (hbd : ∀ i j, i < n → j < n → -9223372036854775808 ≤ S.1 i j ∧ S.1 i j < 9223372036854775808) {l : Nat → Nat} (hl : laRep I l n) {x : Nat} (hx : x < n) : aM mX7_pullLast [.ref 53, .int (nI x)] (sh0, I, L, R) (fun ans h' => ans = some (.int (bI (decide (jPlF S.1 l x n ≠ l x)))) ∧ h' = (sh0, aU I 76 x (nI (jPlF S.1 l x n)), L, R)) := by
  refine aM_of plX7_pullLast (Nat.le_of_ble_eq_true rfl) ?_
  refine aX_aload_n dX7_pullLast_0 rfl ?_
  refine aX_get dX7_pullLast_1 lfX7_20 s53 (f53_9 hR) ?_
  refine aX_iload_n dX7_pullLast_4 rfl ?_
  refine nIald (v := nI (l x)) dX7_pullLast_5 s76 (by first | omega | exact Nat.lt_of_le_of_lt (Nat.mod_le _ _) (by omega)) (by decide) ((hl x (by omega)).1) ?_
  refine aX_istore_n (lv' := [(0, .ref 53), (1, .int (nI (x))), (2, .int (nI (l x)))]) dX7_pullLast_6 (by decide) rfl ?_
  refine aX_iconst (v := nI 0) dX7_pullLast_7 (by decide) ?_
  refine aX_istore_n (lv' := [(0, .ref 53), (1, .int (nI (x))), (2, .int (nI (l x))), (3, .int (nI (0)))]) dX7_pullLast_8 (by decide) rfl ?_
  exact l_pull hR hq hn hn20 hbd hl hx _ 0 (by omega) rfl _ rfl
set_option maxHeartbeats 1000000 in
theorem l_pass {I : Nat → Nat → Int32} {L : Nat → Nat → Int64} {R : Nat → Nat → Option Nat} (hR : aRf R) {S : jQt} (hq : qRep L S) {n : Nat} (hn : I 53 4 = nI n) (hn20 : n ≤ 20) (hbd : ∀ i j, i < n → j < n → -9223372036854775808 ≤ S.1 i j ∧ S.1 i j < 9223372036854775808) {l : Nat → Nat} {Q : Option Value → aH → Prop} {t : Nat} (kk : ∀ (I2 : Nat → Nat → Int32), laRep I2 (jPs S.1 n l n).1 n → rK 76 I I2 → aX mX7_findLasts aE0 (sh0, I2, L, R) 65 [(0, .ref 53), (1, .int (bI (jPs S.1 n l n).2)), (2, .int (nI t)), (3, .int (nI n))] [] 0 0 Q) : ∀ (k9 i : Nat), i ≤ n → n - i = k9 → ∀ (I1 : Nat → Nat → Int32), laRep I1 (jPs S.1 n l i).1 n → rK 76 I I1 → aX mX7_findLasts aE0 (sh0, I1, L, R) 43 [(0, .ref 53), (1, .int (bI ((jPs S.1 n l i).2))), (2, .int (nI (t))), (3, .int (nI (i)))] [] 0 0 Q := by
  intro k9
  induction k9 using Nat.strongRecOn with
  | _ k9 ih =>
    intro i hi hk9 I1  hl hk
    refine aX_iload_n dX7_findLasts_43 rfl ?_
    refine aX_aload_n dX7_findLasts_44 rfl ?_
    refine aX_get (v := .int (nI (n))) dX7_findLasts_45 lfX7_70 s53 (congrArg Value.int ((hk 53 4 (by omega)).trans hn)) ?_
    refine nGe (tgt := 65) dX7_findLasts_48 (by decide) (by first | omega | exact Nat.lt_of_le_of_lt (Nat.mod_le _ _) (by omega)) (by first | omega | exact Nat.lt_of_le_of_lt (Nat.mod_le _ _) (by omega)) (fun c1 => ?_) (fun c1 => ?_)
    · obtain rfl : i = n := by omega
      exact kk I1 hl hk
    · refine aX_iload_n dX7_findLasts_51 rfl ?_
      refine aX_aload_n dX7_findLasts_52 rfl ?_
      refine aX_iload_n dX7_findLasts_53 rfl ?_
      refine cV (As := [.int (nI (i))]) (st := [.int (bI ((jPs S.1 n l i).2))]) dX7_findLasts_54 kX7_findLasts_132 s53 aEok0 rfl rfl (Nat.le_of_ble_eq_true rfl) (c_pullLast hR hq ((hk 53 4 (by omega)).trans hn) hn20 hbd hl (x := i) (by omega)) (fun r h' hq9 => ?_)
      obtain ⟨rfl, rfl⟩ := hq9
      refine ⟨rfl, ?_⟩
      refine aX_ior dX7_findLasts_57 ?_
      rw [bI_or]
      refine aX_istore_n (lv' := [(0, .ref 53), (1, .int (bI (((jPs S.1 n l i).2) || (decide (jPlF S.1 (jPs S.1 n l i).1 i n ≠ (jPs S.1 n l i).1 i))))), (2, .int (nI (t))), (3, .int (nI (i)))]) dX7_findLasts_58 (by decide) rfl ?_
      refine nInc (lv' := [(0, .ref 53), (1, .int (bI (((jPs S.1 n l i).2) || (decide (jPlF S.1 (jPs S.1 n l i).1 i n ≠ (jPs S.1 n l i).1 i))))), (2, .int (nI (t))), (3, .int (nI (i + 1)))]) dX7_findLasts_59 rfl rfl (by decide) rfl ?_
      refine aX_goto (tgt := 43) dX7_findLasts_62 (by decide) ?_
      exact ih (n - (i + 1)) (by omega) (i + 1) (by omega) rfl _ (laRep_set hl (jPlF_lt (fun y hy => (hl y hy).2) (by omega) n (Nat.le_refl n))) (fun a j g => by rw [aU_n (by omega)]; exact hk a j g)
set_option maxHeartbeats 1000000 in
theorem l_findLasts {I : Nat → Nat → Int32} {L : Nat → Nat → Int64} {R : Nat → Nat → Option Nat} (hR : aRf R) {S : jQt} (hq : qRep L S) {n : Nat} (hn : I 53 4 = nI n) (hn20 : n ≤ 20) (hbd : ∀ i j, i < n → j < n → -9223372036854775808 ≤ S.1 i j ∧ S.1 i j < 9223372036854775808) : ∀ (k9 t : Nat), t ≤ n → n - t = k9 → ∀ (I1 : Nat → Nat → Int32), laRep I1 (jPass S.1 n t).1 n → rK 76 I I1 → aX mX7_findLasts aE0 (sh0, I1, L, R) 27 [(0, .ref 53), (1, .int (bI ((jPass S.1 n t).2))), (2, .int (nI (t)))] [] 0 0 (fun ans h' => ans = none ∧ ∃ I', h' = (sh0, I', L, R) ∧ laRep I' (jLa S.1 n) n ∧ rK 76 I I') := by
  intro k9
  induction k9 using Nat.strongRecOn with
  | _ k9 ih =>
    intro t hi hk9 I1  hl hk
    refine aX_iload_n dX7_findLasts_27 rfl ?_
    refine aX_aload_n dX7_findLasts_28 rfl ?_
    refine aX_get (v := .int (nI (n))) dX7_findLasts_29 lfX7_70 s53 (congrArg Value.int ((hk 53 4 (by omega)).trans hn)) ?_
    refine nGe (tgt := 71) dX7_findLasts_32 (by decide) (by first | omega | exact Nat.lt_of_le_of_lt (Nat.mod_le _ _) (by omega)) (by first | omega | exact Nat.lt_of_le_of_lt (Nat.mod_le _ _) (by omega)) (fun c1 => ?_) (fun c1 => ?_)
    · obtain rfl : t = n := by omega
      exact rV dX7_findLasts_71 rfl (⟨rfl, I1, rfl, by unfold jLa; first | exact hl | (have e := jPass_stop hch (n - t); rw [show t + (n - t) = n by omega] at e; rw [e]; exact hl), hk⟩)
    · refine aX_iload_n dX7_findLasts_35 rfl ?_
      refine bEq (tgt := 71) dX7_findLasts_36 (by decide) (fun c2 => ?_) (fun c2 => ?_)
      · have hch : (jPass S.1 n t).2 = false := c2
        exact rV dX7_findLasts_71 rfl (⟨rfl, I1, rfl, by unfold jLa; first | exact hl | (have e := jPass_stop hch (n - t); rw [show t + (n - t) = n by omega] at e; rw [e]; exact hl), hk⟩)
      · have hch : (jPass S.1 n t).2 = true := c2
        refine aX_iconst (v := nI 0) dX7_findLasts_39 (by decide) ?_
        refine aX_istore_n (lv' := [(0, .ref 53), (1, .int (nI (0))), (2, .int (nI (t)))]) dX7_findLasts_40 (by decide) rfl ?_
        refine aX_iconst (v := nI 0) dX7_findLasts_41 (by decide) ?_
        refine aX_istore_n (lv' := [(0, .ref 53), (1, .int (nI (0))), (2, .int (nI (t))), (3, .int (nI (0)))]) dX7_findLasts_42 (by decide) rfl ?_
        refine l_pass hR hq hn hn20 hbd (l := (jPass S.1 n t).1) (t := t) (fun I2 g1 g2 => ?_) _ 0 (by omega) rfl I1 hl hk
        refine nInc (lv' := [(0, .ref 53), (1, .int (bI ((jPs S.1 n (jPass S.1 n t).1 n).2))), (2, .int (nI (t + 1))), (3, .int (nI (n)))]) dX7_findLasts_65 rfl rfl (by decide) rfl ?_
        refine aX_goto (tgt := 27) dX7_findLasts_68 (by decide) ?_
        refine aX_lv (lv' := [(0, .ref 53), (1, .int (bI ((jPs S.1 n (jPass S.1 n t).1 n).2))), (2, .int (nI (t + 1)))]) [0, 1, 2] rfl ?_
        have hst : jPass S.1 n (t + 1) = jPs S.1 n (jPass S.1 n t).1 n := if_pos hch
        rw [← hst] at g1
        rw [← hst]
        exact ih (n - (t + 1)) (by omega) (t + 1) (by omega) rfl I2 g1 g2
set_option maxHeartbeats 1000000 in
theorem l_flInit {I : Nat → Nat → Int32} {L : Nat → Nat → Int64} {R : Nat → Nat → Option Nat} (hR : aRf R) {S : jQt} (hq : qRep L S) {n : Nat} (hn : I 53 4 = nI n) (hn20 : n ≤ 20) (hbd : ∀ i j, i < n → j < n → -9223372036854775808 ≤ S.1 i j ∧ S.1 i j < 9223372036854775808) : ∀ (k9 i : Nat), i ≤ n → n - i = k9 → ∀ (I1 : Nat → Nat → Int32), (∀ x, x < i → I1 76 x = nI x) → rK 76 I I1 → aX mX7_findLasts aE0 (sh0, I1, L, R) 2 [(0, .ref 53), (1, .int (nI (i)))] [] 0 0 (fun ans h' => ans = none ∧ ∃ I', h' = (sh0, I', L, R) ∧ laRep I' (jLa S.1 n) n ∧ rK 76 I I') := by
  intro k9
  induction k9 using Nat.strongRecOn with
  | _ k9 ih =>
    intro i hi hk9 I1  hl hk
    refine aX_iload_n dX7_findLasts_2 rfl ?_
    refine aX_aload_n dX7_findLasts_3 rfl ?_
    refine aX_get (v := .int (nI (n))) dX7_findLasts_4 lfX7_70 s53 (congrArg Value.int ((hk 53 4 (by omega)).trans hn)) ?_
    refine nGe (tgt := 23) dX7_findLasts_7 (by decide) (by first | omega | exact Nat.lt_of_le_of_lt (Nat.mod_le _ _) (by omega)) (by first | omega | exact Nat.lt_of_le_of_lt (Nat.mod_le _ _) (by omega)) (fun c1 => ?_) (fun c1 => ?_)
    · refine aX_iconst (v := nI 1) dX7_findLasts_23 (by decide) ?_
      refine aX_istore_n (lv' := [(0, .ref 53), (1, .int (nI (1)))]) dX7_findLasts_24 (by decide) rfl ?_
      refine aX_iconst (v := nI 0) dX7_findLasts_25 (by decide) ?_
      refine aX_istore_n (lv' := [(0, .ref 53), (1, .int (nI (1))), (2, .int (nI (0)))]) dX7_findLasts_26 (by decide) rfl ?_
      exact l_findLasts hR hq hn hn20 hbd _ 0 (by omega) rfl I1 (fun x hx => ⟨hl x (by omega), Nat.lt_of_lt_of_le hx hn20⟩) hk
    · refine aX_aload_n dX7_findLasts_10 rfl ?_
      refine aX_get dX7_findLasts_11 lfX7_20 s53 (f53_9 hR) ?_
      refine aX_iload_n dX7_findLasts_14 rfl ?_
      refine aX_iload_n dX7_findLasts_15 rfl ?_
      refine nIast dX7_findLasts_16 s76 (by first | omega | exact Nat.lt_of_le_of_lt (Nat.mod_le _ _) (by omega)) (by decide) ?_
      refine nInc (lv' := [(0, .ref 53), (1, .int (nI (i + 1)))]) dX7_findLasts_17 rfl rfl (by decide) rfl ?_
      refine aX_goto (tgt := 2) dX7_findLasts_20 (by decide) ?_
      exact ih (n - (i + 1)) (by omega) (i + 1) (by omega) rfl _ (fun x hx => by
        by_cases e : x = i
        · subst e; rw [aU_s]
        · rw [aU_n (by omega)]; exact hl x (by omega)) (fun a j g => by rw [aU_n (by omega)]; exact hk a j g)
set_option maxHeartbeats 1000000 in
theorem c_findLasts {I : Nat → Nat → Int32} {L : Nat → Nat → Int64} {R : Nat → Nat → Option Nat} (hR : aRf R) {S : jQt} (hq : qRep L S) {n : Nat} (hn : I 53 4 = nI n) (hn20 : n ≤ 20) (hbd : ∀ i j, i < n → j < n → -9223372036854775808 ≤ S.1 i j ∧ S.1 i j < 9223372036854775808) : aM mX7_findLasts [.ref 53] (sh0, I, L, R) (fun ans h' => ans = none ∧ ∃ I', h' = (sh0, I', L, R) ∧ laRep I' (jLa S.1 n) n ∧ rK 76 I I') := by
  refine aM_of plX7_findLasts (Nat.le_of_ble_eq_true rfl) ?_
  refine aX_iconst (v := nI 0) dX7_findLasts_0 (by decide) ?_
  refine aX_istore_n (lv' := [(0, .ref 53), (1, .int (nI (0)))]) dX7_findLasts_1 (by decide) rfl ?_
  exact l_flInit hR hq hn hn20 hbd _ 0 (by omega) rfl I (fun x hx => by omega) (fun _ _ _ => rfl)
set_option maxHeartbeats 1000000 in
theorem l_fix {I : Nat → Nat → Int32} {L : Nat → Nat → Int64} {R : Nat → Nat → Option Nat} (hR : aRf R) {S : jQt} (hq : qRep L S) {n : Nat} (hn : I 53 4 = nI n) (hn20 : n ≤ 20) {c : Nat} (h5 : I 53 5 = nI c) {x : Nat} (hx : x < n) : ∀ (k9 y : Nat), y ≤ n → n - y = k9 → ∀ (L1 : Nat → Nat → Int64), qRep L1 (jFixM S.1 x y, S.2) → lK 53 75 L L1 → aX mX7_fix aE0 (sh0, I, L1, R) 2 [(0, .ref 53), (1, .int (nI (x))), (2, .int (nI (y)))] [] 0 0 (fun ans h' => ans = none ∧ ∃ L', h' = (sh0, aU I 53 5 (nI (c + 1)), L', R) ∧ qRep L' (jFix S n x) ∧ lK 53 75 L L') := by
  intro k9
  induction k9 using Nat.strongRecOn with
  | _ k9 ih =>
    intro y hi hk9 L1  hqr hl
    refine aX_iload_n dX7_fix_2 rfl ?_
    refine aX_aload_n dX7_fix_3 rfl ?_
    refine aX_get (v := .int (nI (n))) dX7_fix_4 lfX7_70 s53 (congrArg Value.int (hn)) ?_
    refine nGe (tgt := 34) dX7_fix_7 (by decide) (by first | omega | exact Nat.lt_of_le_of_lt (Nat.mod_le _ _) (by omega)) (by first | omega | exact Nat.lt_of_le_of_lt (Nat.mod_le _ _) (by omega)) (fun c1 => ?_) (fun c1 => ?_)
    · obtain rfl : y = n := by omega
      refine aX_aload_n dX7_fix_34 rfl ?_
      refine aX_get dX7_fix_35 lfX7_11 s53 (f53_7 hR) ?_
      refine aX_iload_n dX7_fix_38 rfl ?_
      refine nAald (r := 55 + x) dX7_fix_39 s54 (by decide) (by first | omega | exact Nat.lt_of_le_of_lt (Nat.mod_le _ _) (by omega)) (by decide) (r54 hR x (by omega)) ?_
      refine aX_iload_n dX7_fix_40 rfl ?_
      refine aX_lconst (v := lZ 1) dX7_fix_41 rfl ?_
      refine nLast dX7_fix_42 (s54r x (by omega)) (by first | omega | exact Nat.lt_of_le_of_lt (Nat.mod_le _ _) (by omega)) (by decide) ?_
      refine aX_aload_n dX7_fix_43 rfl ?_
      refine aX_get dX7_fix_44 lfX7_16 s53 (f53_8 hR) ?_
      refine aX_iload_n dX7_fix_47 rfl ?_
      refine aX_lconst (v := lZ 0) dX7_fix_48 rfl ?_
      refine nLast dX7_fix_49 s75 (by first | omega | exact Nat.lt_of_le_of_lt (Nat.mod_le _ _) (by omega)) (by decide) ?_
      obtain ⟨LB, hB⟩ : ∃ z, z = (aU (aU L1 (55 + x) x (lZ 1)) 75 x (lZ 0)) := ⟨_, rfl⟩
      rw [← hB]
      refine aX_aload_n dX7_fix_50 rfl ?_
      refine aX_dup dX7_fix_51 rfl ?_
      refine aX_get (v := .int (nI (c))) dX7_fix_52 lfX7_73 s53 (congrArg Value.int (h5)) ?_
      refine aX_iconst (v := nI 1) dX7_fix_55 (by decide) ?_
      refine nAdd dX7_fix_56 ?_
      refine pI dX7_fix_57 lfX7_73 (fun _ _ _ hq => by cases hq; exact Or.inl rfl) s53 rfl ?_
      exact rV dX7_fix_60 rfl (⟨rfl, _, rfl, by
        rw [hB]
        have g := qRep_B (qRep_A hqr (x := x) (y := x) (by omega) 1) (x := x) 0
        exact g, by rw [hB]; exact lK_set (lK_set hl (by omega) (by omega)) (by omega) (by omega)⟩)
    · refine aX_aload_n dX7_fix_10 rfl ?_
      refine aX_get dX7_fix_11 lfX7_11 s53 (f53_7 hR) ?_
      refine aX_iload_n dX7_fix_14 rfl ?_
      refine nAald (r := 55 + x) dX7_fix_15 s54 (by decide) (by first | omega | exact Nat.lt_of_le_of_lt (Nat.mod_le _ _) (by omega)) (by decide) (r54 hR x (by omega)) ?_
      refine aX_iload_n dX7_fix_16 rfl ?_
      refine aX_lconst (v := lZ 0) dX7_fix_17 rfl ?_
      refine nLast dX7_fix_18 (s54r x (by omega)) (by first | omega | exact Nat.lt_of_le_of_lt (Nat.mod_le _ _) (by omega)) (by decide) ?_
      obtain ⟨L2, hL2⟩ : ∃ z, z = (aU L1 (55 + x) y (lZ 0)) := ⟨_, rfl⟩
      rw [← hL2]
      refine aX_aload_n dX7_fix_19 rfl ?_
      refine aX_get dX7_fix_20 lfX7_11 s53 (f53_7 hR) ?_
      refine aX_iload_n dX7_fix_23 rfl ?_
      refine nAald (r := 55 + y) dX7_fix_24 s54 (by decide) (by first | omega | exact Nat.lt_of_le_of_lt (Nat.mod_le _ _) (by omega)) (by decide) (r54 hR y (by omega)) ?_
      refine aX_iload_n dX7_fix_25 rfl ?_
      refine aX_lconst (v := lZ 0) dX7_fix_26 rfl ?_
      refine nLast dX7_fix_27 (s54r y (by omega)) (by first | omega | exact Nat.lt_of_le_of_lt (Nat.mod_le _ _) (by omega)) (by decide) ?_
      obtain ⟨L3, hL3⟩ : ∃ z, z = (aU L2 (55 + y) x (lZ 0)) := ⟨_, rfl⟩
      rw [← hL3]
      refine nInc (lv' := [(0, .ref 53), (1, .int (nI (x))), (2, .int (nI (y + 1)))]) dX7_fix_28 rfl rfl (by decide) rfl ?_
      refine aX_goto (tgt := 2) dX7_fix_31 (by decide) ?_
      have hq2 : qRep L3 (jFixM S.1 x (y + 1), S.2) := by
        have g := qRep_A (qRep_A hqr (x := x) (y := y) (by omega) 0) (x := y) (y := x) (by omega) 0
        rw [hL3, hL2]
        refine qRep_e g (fun i j hi hj => ?_) rfl
        show jFixM S.1 x (y + 1) i j = aU (aU (jFixM S.1 x y) x y 0) y x 0 i j
        by_cases e1 : i = y ∧ j = x
        · obtain ⟨rfl, rfl⟩ := e1; rw [aU_s]; unfold jFixM; rw [if_pos (Or.inr ⟨rfl, by omega⟩)]
        · rw [aU_n e1]
          by_cases e2 : i = x ∧ j = y
          · obtain ⟨rfl, rfl⟩ := e2; rw [aU_s]; unfold jFixM; rw [if_pos (Or.inl ⟨rfl, by omega⟩)]
          · rw [aU_n e2]; unfold jFixM
            by_cases e3 : (i = x ∧ j < y) ∨ (j = x ∧ i < y)
            · rw [if_pos e3, if_pos (by omega)]
            · rw [if_neg e3, if_neg (by omega)]
      have hl2 : lK 53 75 L L3 := by rw [hL3, hL2]; exact lK_set (lK_set hl (by omega) (by omega)) (by omega) (by omega)
      exact ih (n - (y + 1)) (by omega) (y + 1) (by omega) rfl L3 hq2 hl2
set_option maxHeartbeats 1000000 in
theorem c_fix {I : Nat → Nat → Int32} {L : Nat → Nat → Int64} {R : Nat → Nat → Option Nat} (hR : aRf R) {S : jQt} (hq : qRep L S) {n : Nat} (hn : I 53 4 = nI n) (hn20 : n ≤ 20) {c : Nat} (h5 : I 53 5 = nI c) {x : Nat} (hx : x < n) : aM mX7_fix [.ref 53, .int (nI x)] (sh0, I, L, R) (fun ans h' => ans = none ∧ ∃ L', h' = (sh0, aU I 53 5 (nI (c + 1)), L', R) ∧ qRep L' (jFix S n x) ∧ lK 53 75 L L') := by
  refine aM_of plX7_fix (Nat.le_of_ble_eq_true rfl) ?_
  refine aX_iconst (v := nI 0) dX7_fix_0 (by decide) ?_
  refine aX_istore_n (lv' := [(0, .ref 53), (1, .int (nI (x))), (2, .int (nI (0)))]) dX7_fix_1 (by decide) rfl ?_
  exact l_fix hR hq hn hn20 h5 hx _ 0 (by omega) rfl L (qRep_e hq (fun i j _ _ => by show jFixM S.1 x 0 i j = _; unfold jFixM; rw [if_neg (by omega)]) rfl) lK_refl
set_option maxHeartbeats 1000000 in
theorem l_fixLoose {I : Nat → Nat → Int32} {L : Nat → Nat → Int64} {R : Nat → Nat → Option Nat} (hR : aRf R) {S : jQt} {n : Nat} (hn20 : n ≤ 20) {l : Nat → Nat} : ∀ (k9 x : Nat), x ≤ n → n - x = k9 → ∀ (I1 : Nat → Nat → Int32) (L1 : Nat → Nat → Int64), qRep L1 (jFx S n l x) → I1 53 4 = nI n → I1 53 5 = nI (jLoose l x) → laRep I1 l n → (∀ q j, ¬ (q = 53 ∧ (j = 4 ∨ j = 5)) → q ≠ 76 → I1 q j = I q j) → lK 53 75 L L1 → aX mX7_fixLoose aE0 (sh0, I1, L1, R) 6 [(0, .ref 53), (1, .int (nI (x)))] [] 0 0 (fun ans h' => ans = none ∧ ∃ I' L', h' = (sh0, I', L', R) ∧ qRep L' (jFx S n (l) n) ∧ I' 53 4 = nI n ∧ I' 53 5 = nI (jLoose (l) n) ∧ (∀ q j, ¬ (q = 53 ∧ (j = 4 ∨ j = 5)) → q ≠ 76 → I' q j = I q j) ∧ lK 53 75 L L') := by
  intro k9
  induction k9 using Nat.strongRecOn with
  | _ k9 ih =>
    intro x hi hk9 I1  L1  hqr hn1 h5 hl hk hlk
    have hll : x < n → l x < 20 := fun h => (hl x h).2
    refine aX_iload_n dX7_fixLoose_6 rfl ?_
    refine aX_aload_n dX7_fixLoose_7 rfl ?_
    refine aX_get (v := .int (nI (n))) dX7_fixLoose_8 lfX7_70 s53 (congrArg Value.int (hn1)) ?_
    refine nGe (tgt := 35) dX7_fixLoose_11 (by decide) (by first | omega | exact Nat.lt_of_le_of_lt (Nat.mod_le _ _) (by omega)) (by first | omega | exact Nat.lt_of_le_of_lt (Nat.mod_le _ _) (by omega)) (fun c1 => ?_) (fun c1 => ?_)
    · exact rV dX7_fixLoose_35 rfl (⟨rfl, I1, L1, rfl, by rw [show x = n by omega] at hqr; exact hqr, hn1, by rw [show x = n by omega] at h5; exact h5, hk, hlk⟩)
    · refine aX_aload_n dX7_fixLoose_14 rfl ?_
      refine aX_get dX7_fixLoose_15 lfX7_20 s53 (f53_9 hR) ?_
      refine aX_iload_n dX7_fixLoose_18 rfl ?_
      refine nIald (v := nI (l x)) dX7_fixLoose_19 s76 (by first | omega | exact Nat.lt_of_le_of_lt (Nat.mod_le _ _) (by omega)) (by decide) ((hl x (by omega)).1) ?_
      refine aX_iload_n dX7_fixLoose_20 rfl ?_
      refine nNe (tgt := 29) dX7_fixLoose_21 (by decide) (by first | omega | exact Nat.lt_of_le_of_lt (Nat.mod_le _ _) (by omega)) (by first | omega | exact Nat.lt_of_le_of_lt (Nat.mod_le _ _) (by omega)) (fun c2 => ?_) (fun c2 => ?_)
      · have hne : ¬ l x = x := by omega
        refine nInc (lv' := [(0, .ref 53), (1, .int (nI (x + 1)))]) dX7_fixLoose_29 rfl rfl (by decide) rfl ?_
        refine aX_goto (tgt := 6) dX7_fixLoose_32 (by decide) ?_
        exact ih (n - (x + 1)) (by omega) (x + 1) (by omega) rfl I1 L1 (by show qRep L1 (if _ then _ else _); rw [if_neg hne]; exact hqr) hn1 (by unfold jLoose; rw [jCnt_f (by simp [hne])]; exact h5) hl hk hlk
      · have hne : l x = x := by omega
        refine aX_aload_n dX7_fixLoose_24 rfl ?_
        refine aX_iload_n dX7_fixLoose_25 rfl ?_
        refine cV (As := [.int (nI (x))]) (st := []) dX7_fixLoose_26 kX7_fixLoose_129 s53 aEok0 rfl rfl (Nat.le_of_ble_eq_true rfl) (c_fix hR hqr hn1 hn20 h5 (x := x) (by omega)) (fun r h' hq9 => ?_)
        obtain ⟨rfl, L2, rfl, g1, g2⟩ := hq9
        refine ⟨rfl, ?_⟩
        refine nInc (lv' := [(0, .ref 53), (1, .int (nI (x + 1)))]) dX7_fixLoose_29 rfl rfl (by decide) rfl ?_
        refine aX_goto (tgt := 6) dX7_fixLoose_32 (by decide) ?_
        exact ih (n - (x + 1)) (by omega) (x + 1) (by omega) rfl _ L2 (by show qRep L2 (if _ then _ else _); rw [if_pos hne]; exact g1) (by rw [aU_n (by omega)]; exact hn1) (by rw [aU_s]; unfold jLoose; rw [jCnt_t (by simp [hne])]) (fun y hy => by rw [aU_n (by omega)]; exact hl y hy) (fun q j a b => by rw [aU_n (by omega)]; exact hk q j a b) (lK_trans hlk g2)
set_option maxHeartbeats 1000000 in
theorem c_fixLoose {I : Nat → Nat → Int32} {L : Nat → Nat → Int64} {R : Nat → Nat → Option Nat} (hR : aRf R) {S : jQt} (hq : qRep L S) {n : Nat} (hn : I 53 4 = nI n) (hn20 : n ≤ 20) (hbd : ∀ i j, i < n → j < n → -9223372036854775808 ≤ S.1 i j ∧ S.1 i j < 9223372036854775808) (h5 : I 53 5 = nI 0) : aM mX7_fixLoose [.ref 53] (sh0, I, L, R) (fun ans h' => ans = none ∧ ∃ I' L', h' = (sh0, I', L', R) ∧ qRep L' (jFx S n (jLa S.1 n) n) ∧ I' 53 4 = nI n ∧ I' 53 5 = nI (jLoose (jLa S.1 n) n) ∧ (∀ q j, ¬ (q = 53 ∧ (j = 4 ∨ j = 5)) → q ≠ 76 → I' q j = I q j) ∧ lK 53 75 L L') := by
  refine aM_of plX7_fixLoose (Nat.le_of_ble_eq_true rfl) ?_
  refine aX_aload_n dX7_fixLoose_0 rfl ?_
  refine cV (As := []) (st := []) dX7_fixLoose_1 kX7_fixLoose_126 s53 aEok0 rfl rfl (Nat.le_of_ble_eq_true rfl) (c_findLasts hR hq hn hn20 hbd) (fun r h' hq9 => ?_)
  obtain ⟨rfl, I2, rfl, hl, hk2⟩ := hq9
  refine ⟨rfl, ?_⟩
  refine aX_iconst (v := nI 0) dX7_fixLoose_4 (by decide) ?_
  refine aX_istore_n (lv' := [(0, .ref 53), (1, .int (nI (0)))]) dX7_fixLoose_5 (by decide) rfl ?_
  exact l_fixLoose hR hn20 _ 0 (by omega) rfl I2 L hq ((hk2 53 4 (by omega)).trans hn) ((hk2 53 5 (by omega)).trans h5) hl (fun q j _ g => hk2 q j g) lK_refl
def jSq1 (s : jN) (r : jR) (ch : Nat → Nat) (w : jW) : jQt := if w 4 = 0 then jFx (jGath s r ch w (jS s).length) (jVn s) (jLa (jGath s r ch w (jS s).length).1 (jVn s)) (jVn s) else jGath s r ch w (jS s).length
def jLo (s : jN) (r : jR) (ch : Nat → Nat) (w : jW) : Nat := if w 4 = 0 then jLoose (jLa (jGath s r ch w (jS s).length).1 (jVn s)) (jVn s) else 0
set_option maxHeartbeats 1000000 in
theorem l_gather {I : Nat → Nat → Int32} {L : Nat → Nat → Int64} {R : Nat → Nat → Option Nat} (hR : aRf R) {s : jN} {r : jR} {w : jW} {ch : Nat → Nat} (hvn : jVn s ≤ 20) (hbd : ∀ i j, i < jVn s → j < jVn s → -9223372036854775808 ≤ (jGath s r ch w (jS s).length).1 i j ∧ (jGath s r ch w (jS s).length).1 i j < 9223372036854775808) : ∀ (k9 k : Nat), k ≤ (jS s).length → ((jS s).length) - k = k9 → ∀ (I1 : Nat → Nat → Int32) (L1 : Nat → Nat → Int64), cRep I1 s → rRep I1 r → wRep I1 w → cgRep I1 s ch → I1 53 4 = nI (jVn s) → I1 53 5 = nI 0 → qRep L1 (jGath s r ch w k) → gK I I1 → lK 53 75 L L1 → aX mX7_gather aE0 (sh0, I1, L1, R) 6 [(0, .ref 53), (1, .int (nI (k)))] [] 0 0 (fun ans h' => ans = none ∧ ∃ I' L', h' = (sh0, I', L', R) ∧ qRep L' (jSq1 s r ch w) ∧ I' 53 4 = nI (jVn s) ∧ I' 53 5 = nI (jLo s r ch w) ∧ gK I I' ∧ lK 53 75 L L') := by
  intro k9
  induction k9 using Nat.strongRecOn with
  | _ k9 ih =>
    intro k hi hk9 I1  L1  hc1 hr1 hw1 hg1 hz1 h51 hqr hk hlk
    have hSl := jS_len s
    refine aX_iload_n dX7_gather_6 rfl ?_
    refine aX_aload_n dX7_gather_7 rfl ?_
    refine aX_get dX7_gather_8 lfX7_24 s53 (f53_0 hR) ?_
    refine aX_get (v := .int (nI ((jS s).length))) dX7_gather_11 lfX7_42 s16 (congrArg Value.int (hc1.2.2.2.1.1)) ?_
    refine nGe (tgt := 38) dX7_gather_14 (by decide) (by first | omega | exact Nat.lt_of_le_of_lt (Nat.mod_le _ _) (by omega)) (by first | omega | exact Nat.lt_of_le_of_lt (Nat.mod_le _ _) (by omega)) (fun c1 => ?_) (fun c1 => ?_)
    · obtain rfl : k = (jS s).length := by omega
      have hw4 := (hw1.1.2 4 (by decide) (by decide))
      refine aX_aload_n dX7_gather_38 rfl ?_
      refine aX_get dX7_gather_39 lfX7_36 s53 (f53_3 hR) ?_
      refine aX_iconst (v := nI 4) dX7_gather_42 (by decide) ?_
      refine nIald (v := nI (w 4)) dX7_gather_43 s9 (by first | omega | exact Nat.lt_of_le_of_lt (Nat.mod_le _ _) (by omega)) (by decide) (hw1.2 4 (by decide)) ?_
      refine nIf_ne (tgt := 51) dX7_gather_44 (by decide) (by first | omega | exact Nat.lt_of_le_of_lt (Nat.mod_le _ _) (by omega)) (fun c2 => ?_) (fun c2 => ?_)
      · have hw0 : ¬ w 4 = 0 := by omega
        exact rV dX7_gather_51 rfl (⟨rfl, I1, L1, rfl, by unfold jSq1; rw [if_neg hw0]; exact hqr, hz1, by unfold jLo; rw [if_neg hw0]; exact h51, hk, hlk⟩)
      · have hw0 : w 4 = 0 := by omega
        refine aX_aload_n dX7_gather_47 rfl ?_
        refine cV (As := []) (st := []) dX7_gather_48 kX7_gather_58 s53 aEok0 rfl rfl (Nat.le_of_ble_eq_true rfl) (c_fixLoose hR hqr hz1 hvn hbd h51) (fun r' h' hq9 => ?_)
        obtain ⟨rfl, I5, L5, rfl, g1, g2, g3, g4, g5⟩ := hq9
        refine ⟨rfl, ?_⟩
        exact rV dX7_gather_51 rfl (⟨rfl, I5, L5, rfl, by unfold jSq1; rw [if_pos hw0]; exact g1, g2, by unfold jLo; rw [if_pos hw0]; exact g3, gK_trans hk (fun q j a b c d e => g4 q j d e), lK_trans hlk g5⟩)
    · refine aX_aload_n dX7_gather_17 rfl ?_
      refine aX_iload_n dX7_gather_18 rfl ?_
      refine cV (As := [.int (nI (k))]) (st := []) dX7_gather_19 kX7_gather_48 s53 aEok0 rfl rfl (Nat.le_of_ble_eq_true rfl) (c_addChord hR hqr hc1 hr1 hw1 (k := k) (by omega) hz1 hvn hg1) (fun r' h' hq9 => ?_)
      obtain ⟨rfl, I2, L2, rfl, hq2, hk2, hl2⟩ := hq9
      refine ⟨rfl, ?_⟩
      have kk2 : hK 40 40 I1 I2 := hK_op hk2 (by omega) (by omega)
      have hc2 := cRep_hK kk2 (by omega) hc1
      have hr2 := rRep_hK kk2 (by omega) hr1
      have hw2 := wRep_hK kk2 (by omega) hw1
      have hz2 : I2 53 4 = nI (jVn s) := (kk2 53 4 (by omega) (by omega) (by omega)).trans hz1
      refine aX_aload_n dX7_gather_22 rfl ?_
      refine aX_iload_n dX7_gather_23 rfl ?_
      refine cV (As := [.int (nI (k))]) (st := []) dX7_gather_24 kX7_gather_52 s53 aEok0 rfl rfl (Nat.le_of_ble_eq_true rfl) (c_addMoves hR hq2 hc2 hw2 (k := k) (by omega) hz2 hvn) (fun r' h' hq9 => ?_)
      obtain ⟨rfl, I3, L3, rfl, hq3, hk3, hl3⟩ := hq9
      refine ⟨rfl, ?_⟩
      have kk3 : hK 40 40 I2 I3 := hK_cm hk3
      have hc3 := cRep_hK kk3 (by omega) hc2
      have hw3 := wRep_hK kk3 (by omega) hw2
      have hz3 : I3 53 4 = nI (jVn s) := (kk3 53 4 (by omega) (by omega) (by omega)).trans hz2
      refine aX_aload_n dX7_gather_27 rfl ?_
      refine aX_iload_n dX7_gather_28 rfl ?_
      refine cV (As := [.int (nI (k))]) (st := []) dX7_gather_29 kX7_gather_55 s53 aEok0 rfl rfl (Nat.le_of_ble_eq_true rfl) (c_addEquals hR hq3 hc3 hw3 (k := k) (by omega) hz3 hvn) (fun r' h' hq9 => ?_)
      obtain ⟨rfl, L4, rfl, hq4, hl4⟩ := hq9
      refine ⟨rfl, ?_⟩
      have kk4 := hK_trans kk2 kk3
      refine nInc (lv' := [(0, .ref 53), (1, .int (nI (k + 1)))]) dX7_gather_32 rfl rfl (by decide) rfl ?_
      refine aX_goto (tgt := 6) dX7_gather_35 (by decide) ?_
      exact ih ((jS s).length - (k + 1)) (by omega) (k + 1) (by omega) rfl I3 L4 hc3 (rRep_hK kk3 (by omega) hr2) hw3 (cgRep_hK kk4 (by omega) hg1) hz3 ((kk4 53 5 (by omega) (by omega) (by omega)).trans h51) hq4 (gK_trans hk (gK_hK kk4)) (lK_trans hlk (lK_trans hl2 (lK_trans hl3 hl4)))
set_option maxHeartbeats 1000000 in
theorem c_gather {I : Nat → Nat → Int32} {L : Nat → Nat → Int64} {R : Nat → Nat → Option Nat} (hR : aRf R) {s : jN} (hc : cRep I s) {r : jR} (hr : rRep I r) {w : jW} (hw : wRep I w) {ch : Nat → Nat} (hcg : cgRep I s ch) (hvn : jVn s ≤ 20) (hbd : ∀ i j, i < jVn s → j < jVn s → -9223372036854775808 ≤ (jGath s r ch w (jS s).length).1 i j ∧ (jGath s r ch w (jS s).length).1 i j < 9223372036854775808) : aM mX7_gather [.ref 53] (sh0, I, L, R) (fun ans h' => ans = none ∧ ∃ I' L', h' = (sh0, I', L', R) ∧ qRep L' (jSq1 s r ch w) ∧ I' 53 4 = nI (jVn s) ∧ I' 53 5 = nI (jLo s r ch w) ∧ gK I I' ∧ lK 53 75 L L') := by
  refine aM_of plX7_gather (Nat.le_of_ble_eq_true rfl) ?_
  refine aX_aload_n dX7_gather_0 rfl ?_
  refine cV (As := []) (st := []) dX7_gather_1 kX7_gather_39 s53 aEok0 rfl rfl (Nat.le_of_ble_eq_true rfl) (c_reset hR hc hvn) (fun r' h' hq9 => ?_)
  obtain ⟨rfl, I2, L2, rfl, g4, g5, gq, gk, gl⟩ := hq9
  refine ⟨rfl, ?_⟩
  have gg : hK 53 53 I I2 := fun q j a b c => gk q j (by omega) (by omega)
  refine aX_iconst (v := nI 0) dX7_gather_4 (by decide) ?_
  refine aX_istore_n (lv' := [(0, .ref 53), (1, .int (nI (0)))]) dX7_gather_5 (by decide) rfl ?_
  exact l_gather hR hvn hbd _ 0 (by omega) rfl I2 L2 (cRep_hK gg (by omega) hc) (rRep_hK gg (by omega) hr) (wRep_hK gg (by omega) hw) (cgRep_hK gg (by omega) hcg) g4 g5 gq (fun q j a b c d e => gk q j (by omega) (by omega)) gl
