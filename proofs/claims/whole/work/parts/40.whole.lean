/-! WHOLE NUMBERS: what the methods of Whole do -/
theorem e_bound {s P : Int} (hP : 0 < P) {lo hi : Int} (h1 : lo * P ≤ s) (h2 : s < (hi + 1) * P) : lo ≤ s / P ∧ s / P ≤ hi := by
  refine ⟨(Int.le_ediv_iff_mul_le hP).mpr h1, ?_⟩
  have := Int.ediv_lt_of_lt_mul hP h2
  omega
theorem e_cong {x M : Int} (k : Int) : (x + M * k) % M = x % M := Int.add_mul_emod_self_left x M k
theorem cmb_s {x y sg : Int} (i : Nat) : (x % jBB (i + 1)) + sg * (y % jBB (i + 1)) = (x % jBB i + sg * (y % jBB i)) + (((jDg x i : Nat) : Int) + sg * ((jDg y i : Nat) : Int)) * jBB i := by
  rw [jDg_low, jDg_low]
  grind
theorem cmb_r {x y sg : Int} (i : Nat) : (x + sg * y) % jBB (i + 1) = (x % jBB (i + 1) + sg * (y % jBB (i + 1))) % jBB (i + 1) := by
  have hx := Int.emod_add_mul_ediv x (jBB (i + 1))
  have hy := Int.emod_add_mul_ediv y (jBB (i + 1))
  rw [← e_cong (x := x % jBB (i + 1) + sg * (y % jBB (i + 1))) (x / jBB (i + 1) + sg * (y / jBB (i + 1)))]
  congr 1
  grind
theorem cmb_b {x y sg : Int} (hsg : sg = 1 ∨ sg = -1) (i : Nat) : -1 ≤ (x % jBB i + sg * (y % jBB i)) / jBB i ∧ (x % jBB i + sg * (y % jBB i)) / jBB i ≤ 1 := by
  have h1 := Int.emod_nonneg x (jBB_nz i)
  have h2 := Int.emod_lt_of_pos x (jBB_pos i)
  have h3 := Int.emod_nonneg y (jBB_nz i)
  have h4 := Int.emod_lt_of_pos y (jBB_pos i)
  rcases hsg with rfl | rfl
  · exact e_bound (jBB_pos i) (by omega) (by omega)
  · exact e_bound (jBB_pos i) (by omega) (by omega)
theorem tp_s {x f m : Int} (i : Nat) : (x % jBB (i + 1)) * f + m = ((x % jBB i) * f + m) + (((jDg x i : Nat) : Int) * f) * jBB i := by
  rw [jDg_low]
  grind
theorem tp_r {x f m : Int} (i : Nat) : (x * f + m) % jBB (i + 1) = ((x % jBB (i + 1)) * f + m) % jBB (i + 1) := by
  have hx := Int.emod_add_mul_ediv x (jBB (i + 1))
  rw [← e_cong (x := (x % jBB (i + 1)) * f + m) ((x / jBB (i + 1)) * f)]
  congr 1
  grind
theorem tp_b {x f m : Int} (hf : 0 ≤ f) (hm : 0 ≤ m) (i : Nat) : 0 ≤ ((x % jBB i) * f + m) / jBB i ∧ ((x % jBB i) * f + m) / jBB i ≤ f + m := by
  have h1 := Int.emod_nonneg x (jBB_nz i)
  have h2 := Int.emod_lt_of_pos x (jBB_pos i)
  have h3 := jBB_pos i
  refine e_bound (jBB_pos i) (by have := Int.mul_nonneg h1 hf; omega) ?_
  have h4 : (x % jBB i) * f ≤ jBB i * f := Int.mul_le_mul_of_nonneg_right (by omega) hf
  have h5 : m * 1 ≤ m * jBB i := Int.mul_le_mul_of_nonneg_left (by omega) hm
  have e : (f + m + 1) * jBB i = jBB i * f + m * jBB i + jBB i := by grind
  omega

set_option maxHeartbeats 1000000 in
theorem l_filli {I : Nat → Nat → Int32} {L : Nat → Nat → Int64} {R : Nat → Nat → Option Nat} {q n : Nat} (hs : ∀ I L, aSh (sh0, I, L, R) q = some (0, n)) (hn : n < 2 ^ 31) {v : Int32} : ∀ (k9 i : Nat), i ≤ n → n - i = k9 → ∀ (I1 : Nat → Nat → Int32), (∀ j, j < i → I1 q j = v) → rK q I I1 → aX mJ7_fill_53178 aE0 (sh0, I1, L, R) 5 [(0, .ref (q)), (1, .int (v)), (2, .int (nI (i))), (3, .int (nI (n)))] [] 0 0 (fun ans h' => ans = none ∧ ∃ I', h' = (sh0, I', L, R) ∧ (∀ j, j < n → I' q j = v) ∧ rK q I I') := by
  intro k9
  induction k9 using Nat.strongRecOn with
  | _ k9 ih =>
    intro i hi hk9 I1  hd hk
    refine aX_iload_n dJ7_fill_53178_5 rfl ?_
    refine aX_iload_n dJ7_fill_53178_6 rfl ?_
    refine nGe (tgt := 20) dJ7_fill_53178_7 (by decide) (by first | omega | exact Nat.lt_of_le_of_lt (Nat.mod_le _ _) (by omega)) (by first | omega | exact Nat.lt_of_le_of_lt (Nat.mod_le _ _) (by omega)) (fun c1 => ?_) (fun c1 => ?_)
    · exact rV dJ7_fill_53178_20 rfl (⟨rfl, I1, rfl, fun j hj => hd j (by omega), hk⟩)
    · refine aX_aload_n dJ7_fill_53178_10 rfl ?_
      refine aX_iload_n dJ7_fill_53178_11 rfl ?_
      refine aX_iload_n dJ7_fill_53178_12 rfl ?_
      refine nIast dJ7_fill_53178_13 (hs _ _) (by omega) (by omega) ?_
      refine nInc (lv' := [(0, .ref (q)), (1, .int (v)), (2, .int (nI (i + 1))), (3, .int (nI (n)))]) dJ7_fill_53178_14 rfl rfl (by decide) rfl ?_
      refine aX_goto (tgt := 5) dJ7_fill_53178_17 (by decide) ?_
      exact ih (n - (i + 1)) (by omega) (i + 1) (by omega) rfl _ (fun j hj => by
        by_cases e : j = i
        · subst e; rw [aU_s]
        · rw [aU_n (by omega)]; exact hd j (by omega)) (fun a j hq => by rw [aU_n (by omega)]; exact hk a j hq)
set_option maxHeartbeats 1000000 in
theorem c_filli {I : Nat → Nat → Int32} {L : Nat → Nat → Int64} {R : Nat → Nat → Option Nat} {q n : Nat} (hs : ∀ I L, aSh (sh0, I, L, R) q = some (0, n)) (hn : n < 2 ^ 31) {v : Int32} : aM mJ7_fill_53178 [.ref q, .int v] (sh0, I, L, R) (fun ans h' => ans = none ∧ ∃ I', h' = (sh0, I', L, R) ∧ (∀ j, j < n → I' q j = v) ∧ rK q I I') := by
  refine aM_of plJ7_fill_53178 (Nat.le_of_ble_eq_true rfl) ?_
  refine aX_iconst (v := nI 0) dJ7_fill_53178_0 (by decide) ?_
  refine aX_istore_n (lv' := [(0, .ref (q)), (1, .int (v)), (2, .int (nI (0)))]) dJ7_fill_53178_1 (by decide) rfl ?_
  refine aX_aload_n dJ7_fill_53178_2 rfl ?_
  refine nAlen dJ7_fill_53178_3 (hs _ _) (by decide) ?_
  refine aX_istore_n (lv' := [(0, .ref (q)), (1, .int (v)), (2, .int (nI (0))), (3, .int (nI (n)))]) dJ7_fill_53178_4 (by decide) rfl ?_
  exact l_filli hs hn _ 0 (by omega) rfl I (fun j hj => by omega) (fun _ _ _ => rfl)
set_option maxHeartbeats 1000000 in
theorem c_become {I : Nat → Nat → Int32} {L : Nat → Nat → Int64} {R : Nat → Nat → Option Nat} {o : Nat} (ho : wSh R o) {n : Nat} (hn : n < 1073741824) : aM mX9_become [.ref o, .int (nI n)] (sh0, I, L, R) (fun ans h' => ans = none ∧ ∃ I', h' = (sh0, I', L, R) ∧ wR I' o n false ∧ oK o I I') := by
  refine aM_of plX9_become (Nat.le_of_ble_eq_true rfl) ?_
  refine aX_aload_n dX9_become_0 rfl ?_
  refine aX_get (v := .ref (o + 1)) dX9_become_1 lfX9_9 (ho.1 _ _) (ho.2.2.1 _ _) ?_
  refine aX_iconst (v := nI 0) dX9_become_4 (by decide) ?_
  refine cS (As := [.ref (o + 1), .int (nI (0))]) (st := []) dX9_become_5 kX9_become_15 aEok0 rfl rfl (Nat.le_of_ble_eq_true rfl) (c_filli ho.2.1 (by decide)) (fun r h' hq => ?_)
  obtain ⟨rfl, I2, rfl, hz, hk⟩ := hq
  refine ⟨rfl, ?_⟩
  refine aX_aload_n dX9_become_8 rfl ?_
  refine aX_get (v := .ref (o + 1)) dX9_become_9 lfX9_9 (ho.1 _ _) (ho.2.2.1 _ _) ?_
  refine aX_iconst (v := nI 0) dX9_become_12 (by decide) ?_
  refine aX_iload_n dX9_become_13 rfl ?_
  refine nIast dX9_become_14 (ho.2.1 _ _) (by first | omega | exact Nat.lt_of_le_of_lt (Nat.mod_le _ _) (by omega)) (by decide) ?_
  refine aX_aload_n dX9_become_15 rfl ?_
  refine aX_iconst (v := nI 0) dX9_become_16 (by decide) ?_
  refine pZ (b := false) dX9_become_17 lfX9_21 (fun _ _ _ hq => by cases hq; exact Or.inl rfl) (ho.1 _ _) rfl ?_
  exact rV dX9_become_20 rfl (⟨rfl, _, rfl, ⟨fun i hi => by
    rw [aU_n (by omega)]
    cases i with
    | zero => rw [aU_s, jDg_0 (by omega) (by omega)]; rfl
    | succ i => rw [aU_n (by omega), hz _ hi, jDg_s (by omega) (by omega)], aU_s⟩, fun a j g1 g2 => by rw [aU_n (by omega), aU_n (by omega)]; exact hk a j g2⟩)
set_option maxHeartbeats 1000000 in
theorem c_copy {I : Nat → Nat → Int32} {L : Nat → Nat → Int64} {R : Nat → Nat → Option Nat} {o : Nat} (ho : wSh R o) {u : Nat} (hu : wSh R u) (hne : o ≠ u) {y : Int} {ng : Bool} (hy : wR I u y ng) : aM mX9_copy [.ref o, .ref u] (sh0, I, L, R) (fun ans h' => ans = none ∧ ∃ I', h' = (sh0, I', L, R) ∧ wR I' o y ng ∧ oK o I I') := by
  have e1 := ho.2.2.2.1
  have e2 := hu.2.2.2.1
  refine aM_of plX9_copy (Nat.le_of_ble_eq_true rfl) ?_
  refine aX_aload_n dX9_copy_0 rfl ?_
  refine aX_get (v := .ref (u + 1)) dX9_copy_1 lfX9_9 (hu.1 _ _) (hu.2.2.1 _ _) ?_
  refine aX_iconst (v := nI 0) dX9_copy_4 (by decide) ?_
  refine aX_aload_n dX9_copy_5 rfl ?_
  refine aX_get (v := .ref (o + 1)) dX9_copy_6 lfX9_9 (ho.1 _ _) (ho.2.2.1 _ _) ?_
  refine aX_iconst (v := nI 0) dX9_copy_9 (by decide) ?_
  refine aX_bipush (v := nI 12) dX9_copy_10 (by decide) ?_
  refine nCopyI (st := []) dX9_copy_12 ⟨lyX9_25, wY1, wY2, wY3⟩ (hu.2.1 _ _) (ho.2.1 _ _) (by first | omega | exact Nat.lt_of_le_of_lt (Nat.mod_le _ _) (by omega)) (by first | omega | exact Nat.lt_of_le_of_lt (Nat.mod_le _ _) (by omega)) (by decide) (by decide) (by decide) (Nat.le_of_ble_eq_true rfl) ?_
  refine aX_aload_n dX9_copy_15 rfl ?_
  refine aX_aload_n dX9_copy_16 rfl ?_
  refine aX_get (v := .int (bI (ng))) dX9_copy_17 lfX9_21 (hu.1 _ _) (congrArg Value.int ((congrFun (aUr_o (by omega)) 1).trans hy.2)) ?_
  refine pZ (b := ng) dX9_copy_20 lfX9_21 (fun _ _ _ hq => by cases hq; exact Or.inl rfl) (ho.1 _ _) rfl ?_
  exact rV dX9_copy_23 rfl (⟨rfl, _, rfl, ⟨fun i hi => by
    rw [aU_n (by omega), aUr_s, pk_cpy_in (Nat.zero_le _) (by omega), Nat.zero_add, Nat.sub_zero]; exact hy.1 i hi, aU_s⟩, fun a j g1 g2 => by rw [aU_n (by omega)]; exact congrFun (aUr_o g2) j⟩)
theorem hs_no {x : Int} {n i : Nat} (hi : 1 ≤ i) (hn : n < 1073741824) (h : 0 < jDg x i) : decide (x = ((n : Nat) : Int)) = false := by
  rw [decide_eq_false_iff_not]
  intro e
  have z := jDg_s (n := x) (i := i - 1) (by omega) (by omega)
  rw [show i - 1 + 1 = i by omega] at z
  omega
theorem hs_end {x : Int} (h0 : 0 ≤ x) (h1 : x < jBB 12) (hz : ∀ j, 1 ≤ j → j < 12 → jDg x j = 0) : x = ((jDg x 0 : Nat) : Int) := by
  have hl0 := jDg_lt x 0
  have z : x % jBB 12 = ((jDg x 0 : Nat) : Int) % jBB 12 := jDg_ext 12 (fun j hj => by
    cases j with
    | zero => rw [jDg_0 (n := ((jDg x 0 : Nat) : Int)) (by omega) (by omega)]; rfl
    | succ j => rw [hz (j + 1) (by omega) (by omega), jDg_s (by omega) (by omega)])
  have hb : 2 ^ 30 ≤ jBB 12 := jBB_ge 11
  rwa [Int.emod_eq_of_lt h0 h1, Int.emod_eq_of_lt (by omega) (by omega)] at z
set_option maxHeartbeats 1000000 in
theorem l_hasSize {I : Nat → Nat → Int32} {L : Nat → Nat → Int64} {R : Nat → Nat → Option Nat} {o : Nat} (ho : wSh R o) {x : Int} (hx : wD I o x)(h0 : 0 ≤ x) (h1 : x < jBB 12) {n : Nat} (hn : n < 1073741824) : ∀ (k9 i : Nat), i ≤ 12 → 12 - i = k9 → 1 ≤ i → (∀ j, 1 ≤ j → j < i → jDg x j = 0) → aX mX9_hasSize aE0 (sh0, I, L, R) 2 [(0, .ref (o)), (1, .int (nI (n))), (2, .int (nI (i)))] [] 0 0 (fun ans h' => h' = (sh0, I, L, R) ∧ ans = some (.int (bI (decide (x = n))))) := by
  intro k9
  induction k9 using Nat.strongRecOn with
  | _ k9 ih =>
    intro i hi hk9  hi1 hz
    have hlt := fun k => jDg_lt x k
    have hli := jDg_lt x i
    have hl0 := jDg_lt x 0
    refine aX_iload_n dX9_hasSize_2 rfl ?_
    refine aX_bipush (v := nI 12) dX9_hasSize_3 (by decide) ?_
    refine nGe (tgt := 25) dX9_hasSize_5 (by decide) (by first | omega | exact Nat.lt_of_le_of_lt (Nat.mod_le _ _) (by omega)) (by first | omega | exact Nat.lt_of_le_of_lt (Nat.mod_le _ _) (by omega)) (fun c1 => ?_) (fun c1 => ?_)
    · refine aX_aload_n dX9_hasSize_25 rfl ?_
      refine aX_get (v := .ref (o + 1)) dX9_hasSize_26 lfX9_9 (ho.1 _ _) (ho.2.2.1 _ _) ?_
      refine aX_iconst (v := nI 0) dX9_hasSize_29 (by decide) ?_
      refine nIald (v := nI (jDg x 0)) dX9_hasSize_30 (ho.2.1 _ _) (by first | omega | exact Nat.lt_of_le_of_lt (Nat.mod_le _ _) (by omega)) (by decide) (hx 0 (by omega)) ?_
      refine aX_iload_n dX9_hasSize_31 rfl ?_
      refine nNe (tgt := 39) dX9_hasSize_32 (by decide) (by first | omega | exact Nat.lt_of_le_of_lt (Nat.mod_le _ _) (by omega)) (by first | omega | exact Nat.lt_of_le_of_lt (Nat.mod_le _ _) (by omega)) (fun c2 => ?_) (fun c2 => ?_)
      · refine aX_iconst (v := nI 0) dX9_hasSize_39 (by decide) ?_
        exact rZ dX9_hasSize_40 rfl (Or.inl rfl) (⟨rfl, by rw [show decide (x = ((n : Nat) : Int)) = false by have z := hs_end h0 h1 (fun j j1 j2 => hz j j1 (by omega)); simp; omega]; rfl⟩)
      · refine aX_iconst (v := nI 1) dX9_hasSize_35 (by decide) ?_
        refine aX_goto (tgt := 40) dX9_hasSize_36 (by decide) ?_
        exact rZ dX9_hasSize_40 rfl (Or.inr rfl) (⟨rfl, by rw [show decide (x = ((n : Nat) : Int)) = true by have z := hs_end h0 h1 (fun j j1 j2 => hz j j1 (by omega)); simp; omega]; rfl⟩)
    · refine aX_aload_n dX9_hasSize_8 rfl ?_
      refine aX_get (v := .ref (o + 1)) dX9_hasSize_9 lfX9_9 (ho.1 _ _) (ho.2.2.1 _ _) ?_
      refine aX_iload_n dX9_hasSize_12 rfl ?_
      refine nIald (v := nI (jDg x i)) dX9_hasSize_13 (ho.2.1 _ _) (by first | omega | exact Nat.lt_of_le_of_lt (Nat.mod_le _ _) (by omega)) (by decide) (hx i (by omega)) ?_
      refine nIf_eq (tgt := 19) dX9_hasSize_14 (by decide) (by first | omega | exact Nat.lt_of_le_of_lt (Nat.mod_le _ _) (by omega)) (fun c3 => ?_) (fun c3 => ?_)
      · refine nInc (lv' := [(0, .ref (o)), (1, .int (nI (n))), (2, .int (nI (i + 1)))]) dX9_hasSize_19 rfl rfl (by decide) rfl ?_
        refine aX_goto (tgt := 2) dX9_hasSize_22 (by decide) ?_
        exact ih (12 - (i + 1)) (by omega) (i + 1) (by omega) rfl (by omega) (fun j j1 j2 => by
          by_cases e : j = i
          · subst e; assumption
          · exact hz j j1 (by omega))
      · refine aX_iconst (v := nI 0) dX9_hasSize_17 (by decide) ?_
        exact rZ dX9_hasSize_18 rfl (Or.inl rfl) (⟨rfl, by rw [hs_no hi1 hn (by omega)]; rfl⟩)
set_option maxHeartbeats 1000000 in
theorem c_hasSize {I : Nat → Nat → Int32} {L : Nat → Nat → Int64} {R : Nat → Nat → Option Nat} {o : Nat} (ho : wSh R o) {x : Int} (hx : wD I o x)(h0 : 0 ≤ x) (h1 : x < jBB 12) {n : Nat} (hn : n < 1073741824) : aMp mX9_hasSize [.ref o, .int (nI n)] (sh0, I, L, R) (.int (bI (decide (x = n)))) := by
  refine aM_of plX9_hasSize (Nat.le_of_ble_eq_true rfl) ?_
  refine aX_iconst (v := nI 1) dX9_hasSize_0 (by decide) ?_
  refine aX_istore_n (lv' := [(0, .ref (o)), (1, .int (nI (n))), (2, .int (nI (1)))]) dX9_hasSize_1 (by decide) rfl ?_
  exact l_hasSize ho hx h0 h1 hn _ 1 (by omega) rfl (by omega) (fun j j1 j2 => by omega)
set_option maxHeartbeats 1000000 in
theorem l_timesPlus {I : Nat → Nat → Int32} {L : Nat → Nat → Int64} {R : Nat → Nat → Option Nat} {o : Nat} (ho : wSh R o) {x : Int} (hx : wD I o x) {f m : Nat} (hf : f < 2147483648) (hm : m < 2147483648) : ∀ (k9 i : Nat), i ≤ 12 → 12 - i = k9 → ∀ (c : Int) (I1 : Nat → Nat → Int32), c = ((x % jBB i) * f + m) / jBB i → (∀ j, j < i → I1 (o + 1) j = nI (jDg (x * f + m) j)) → (∀ j, i ≤ j → j < 12 → I1 (o + 1) j = nI (jDg x j)) → rK (o + 1) I I1 → aX mX9_timesPlus aE0 (sh0, I1, L, R) 6 [(0, .ref (o)), (1, .int (nI (f))), (2, .int (nI (m))), (3, .long (lZ (c))), (5, .int (nI (i)))] [] 0 0 (fun ans h' => ans = none ∧ ∃ I', h' = (sh0, I', L, R) ∧ wD I' o (x * f + m) ∧ rK (o + 1) I I') := by
  intro k9
  induction k9 using Nat.strongRecOn with
  | _ k9 ih =>
    intro i hi hk9 c  I1  hc hd hup hk
    have hli := jDg_lt x i
    have hcb := tp_b (x := x) (f := f) (m := m) (by omega) (by omega) i
    rw [← hc] at hcb
    have hmul : jDg x i * f ≤ 1073741824 * 2147483648 := Nat.mul_le_mul (by omega) (by omega)
    have hcr := jCarry (tp_s (x := x) (f := f) (m := m) i) (tp_r (x := x) (f := f) (m := m) i)
    rw [← hc, ← Int.natCast_mul] at hcr
    refine aX_iload dX9_timesPlus_6 rfl ?_
    refine aX_bipush (v := nI 12) dX9_timesPlus_8 (by decide) ?_
    refine nGe (tgt := 51) dX9_timesPlus_10 (by decide) (by first | omega | exact Nat.lt_of_le_of_lt (Nat.mod_le _ _) (by omega)) (by first | omega | exact Nat.lt_of_le_of_lt (Nat.mod_le _ _) (by omega)) (fun c1 => ?_) (fun c1 => ?_)
    · exact rV dX9_timesPlus_51 rfl (⟨rfl, I1, rfl, fun j hj => hd j (by omega), hk⟩)
    · refine aX_lload_n dX9_timesPlus_13 rfl ?_
      refine aX_aload_n dX9_timesPlus_14 rfl ?_
      refine aX_get (v := .ref (o + 1)) dX9_timesPlus_15 lfX9_9 (ho.1 _ _) (ho.2.2.1 _ _) ?_
      refine aX_iload dX9_timesPlus_18 rfl ?_
      refine nIald (v := nI (jDg x i)) dX9_timesPlus_20 (ho.2.1 _ _) (by first | omega | exact Nat.lt_of_le_of_lt (Nat.mod_le _ _) (by omega)) (by decide) (hup i (Nat.le_refl _) (by omega)) ?_
      refine kI2l dX9_timesPlus_21 (by first | omega | exact Nat.lt_of_le_of_lt (Nat.mod_le _ _) (by omega)) ?_
      refine aX_iload_n dX9_timesPlus_22 rfl ?_
      refine kI2l dX9_timesPlus_23 (by first | omega | exact Nat.lt_of_le_of_lt (Nat.mod_le _ _) (by omega)) ?_
      refine kMul dX9_timesPlus_24 ?_
      refine yAdd (a := c) (b := (((jDg x i) * f : Nat) : Int)) dX9_timesPlus_25 (rfl) (kZ _) ?_
      refine aX_lstore_n (lv' := [(0, .ref (o)), (1, .int (nI (f))), (2, .int (nI (m))), (3, .long (lZ (c + ((((jDg x i) * f : Nat) : Int))))), (5, .int (nI (i)))]) dX9_timesPlus_26 (by decide) rfl ?_
      refine aX_aload_n dX9_timesPlus_27 rfl ?_
      refine aX_get (v := .ref (o + 1)) dX9_timesPlus_28 lfX9_9 (ho.1 _ _) (ho.2.2.1 _ _) ?_
      refine aX_iload dX9_timesPlus_31 rfl ?_
      refine aX_lload_n dX9_timesPlus_33 rfl ?_
      refine aX_ldc2 (v := lN 1073741823) dX9_timesPlus_34 lkX9_31 ?_
      refine yAnd 30 dX9_timesPlus_37 rfl (by decide) ?_
      refine kL2i dX9_timesPlus_38 ?_
      refine nIast dX9_timesPlus_39 (ho.2.1 _ _) (by first | omega | exact Nat.lt_of_le_of_lt (Nat.mod_le _ _) (by omega)) (by decide) ?_
      refine aX_lload_n dX9_timesPlus_40 rfl ?_
      refine aX_bipush (v := nI 30) dX9_timesPlus_41 (by decide) ?_
      refine yShr dX9_timesPlus_43 (by first | omega | exact Nat.lt_of_le_of_lt (Nat.mod_le _ _) (by omega)) (by first | omega | exact Nat.lt_of_le_of_lt (Nat.mod_le _ _) (by omega)) (by first | omega | exact Nat.lt_of_le_of_lt (Nat.mod_le _ _) (by omega)) ?_
      refine aX_lstore_n (lv' := [(0, .ref (o)), (1, .int (nI (f))), (2, .int (nI (m))), (3, .long (lZ ((c + ((((jDg x i) * f : Nat) : Int))) / 2 ^ 30))), (5, .int (nI (i)))]) dX9_timesPlus_44 (by decide) rfl ?_
      refine nInc (lv' := [(0, .ref (o)), (1, .int (nI (f))), (2, .int (nI (m))), (3, .long (lZ ((c + ((((jDg x i) * f : Nat) : Int))) / 2 ^ 30))), (5, .int (nI (i + 1)))]) dX9_timesPlus_45 rfl rfl (by decide) rfl ?_
      refine aX_goto (tgt := 6) dX9_timesPlus_48 (by decide) ?_
      exact ih (12 - (i + 1)) (by omega) (i + 1) (by omega) rfl _ _ hcr.1.symm (fun j hj => by
        by_cases e : j = i
        · subst e; rw [aU_s, hcr.2]
        · rw [aU_n (by omega)]; exact hd j (by omega)) (fun j h1 h2 => by rw [aU_n (by omega)]; exact hup j (by omega) h2) (fun a j g => by rw [aU_n (by omega)]; exact hk a j g)
set_option maxHeartbeats 1000000 in
theorem c_timesPlus {I : Nat → Nat → Int32} {L : Nat → Nat → Int64} {R : Nat → Nat → Option Nat} {o : Nat} (ho : wSh R o) {x : Int} (hx : wD I o x) {f m : Nat} (hf : f < 2147483648) (hm : m < 2147483648) : aM mX9_timesPlus [.ref o, .int (nI f), .int (nI m)] (sh0, I, L, R) (fun ans h' => ans = none ∧ ∃ I', h' = (sh0, I', L, R) ∧ wD I' o (x * f + m) ∧ rK (o + 1) I I') := by
  refine aM_of plX9_timesPlus (Nat.le_of_ble_eq_true rfl) ?_
  refine aX_iload_n dX9_timesPlus_0 rfl ?_
  refine kI2l dX9_timesPlus_1 (by first | omega | exact Nat.lt_of_le_of_lt (Nat.mod_le _ _) (by omega)) ?_
  refine aX_lstore_n (lv' := [(0, .ref (o)), (1, .int (nI (f))), (2, .int (nI (m))), (3, .long (lN (m)))]) dX9_timesPlus_2 (by decide) rfl ?_
  refine aX_iconst (v := nI 0) dX9_timesPlus_3 (by decide) ?_
  refine aX_istore (lv' := [(0, .ref (o)), (1, .int (nI (f))), (2, .int (nI (m))), (3, .long (lN (m))), (5, .int (nI (0)))]) dX9_timesPlus_4 (by decide) rfl ?_
  rw [kZ]
  exact l_timesPlus ho hx hf hm _ 0 (by omega) rfl _ I (by rw [jBB_0, Int.emod_one, Int.zero_mul, Int.zero_add, Int.ediv_one]) (fun j hj => by omega) (fun j _ hj => hx j hj) (fun _ _ _ => rfl)
def jCp (x y : Int) : Int32 := if x < y then -1 else if x = y then nI 0 else nI 1
theorem jCp_at {x y : Int} {c : Nat} (hu : x / jBB (c + 1) = y / jBB (c + 1)) (h : jDg x c ≠ jDg y c) : (jDg x c < jDg y c → jCp x y = -1) ∧ (jDg y c ≤ jDg x c → jCp x y = nI 1) := by
  have h1 := jDg_high x c
  have h2 := jDg_high y c
  rw [hu] at h1
  constructor
  · intro hl
    have : x < y := by
      refine Int.not_le.mp (fun z => ?_)
      have := Int.ediv_le_ediv (jBB_pos c) z
      omega
    unfold jCp
    rw [if_pos this]
  · intro hl
    have : y < x := by
      refine Int.not_le.mp (fun z => ?_)
      have := Int.ediv_le_ediv (jBB_pos c) z
      omega
    unfold jCp
    rw [if_neg (by omega), if_neg (by omega)]
set_option maxHeartbeats 1000000 in
theorem l_compareSize {I : Nat → Nat → Int32} {L : Nat → Nat → Int64} {R : Nat → Nat → Option Nat} {o : Nat} (ho : wSh R o) {x : Int} (hx : wD I o x) {u : Nat} (hu : wSh R u) {y : Int} (hy : wD I u y) (hx0 : 0 ≤ x) (hx1 : x < jBB 12) (hy0 : 0 ≤ y) (hy1 : y < jBB 12) : ∀ (k9 c : Nat), c ≤ 12 → c = k9 → x / jBB c = y / jBB c → aX mX9_compareSize aE0 (sh0, I, L, R) 3 [(0, .ref (o)), (1, .ref (u)), (2, .int (jDn c))] [] 0 0 (fun ans h' => h' = (sh0, I, L, R) ∧ ans = some (.int (jCp x y))) := by
  intro k9
  induction k9 using Nat.strongRecOn with
  | _ k9 ih =>
    intro c hi hk9  he
    cases c with
    | zero =>
      refine aX_iload_n dX9_compareSize_3 rfl ?_
      refine aX_if_lt (tgt := 49) dX9_compareSize_4 (by decide) (fun c1 => ?_) (fun c1 => ?_)
      · refine aX_iconst (v := nI 0) dX9_compareSize_49 (by decide) ?_
        exact rI dX9_compareSize_50 rfl (⟨rfl, by rw [jBB_0, Int.ediv_one, Int.ediv_one] at he; unfold jCp; rw [if_neg (by omega), if_pos he]⟩)
      · exact absurd (by decide) c1
    | succ c =>
      have hl1 := jDg_lt x c
      have hl2 := jDg_lt y c
      refine aX_iload_n dX9_compareSize_3 rfl ?_
      refine aX_if_lt (tgt := 49) dX9_compareSize_4 (by decide) (fun c2 => ?_) (fun c2 => ?_)
      · exact absurd c2 (nI_pos (by omega))
      · refine aX_aload_n dX9_compareSize_7 rfl ?_
        refine aX_get (v := .ref (o + 1)) dX9_compareSize_8 lfX9_9 (ho.1 _ _) (ho.2.2.1 _ _) ?_
        refine aX_iload_n dX9_compareSize_11 rfl ?_
        refine nIald (v := nI (jDg x c)) dX9_compareSize_12 (ho.2.1 _ _) (by first | omega | exact Nat.lt_of_le_of_lt (Nat.mod_le _ _) (by omega)) (by decide) (hx c (by omega)) ?_
        refine aX_aload_n dX9_compareSize_13 rfl ?_
        refine aX_get (v := .ref (u + 1)) dX9_compareSize_14 lfX9_9 (hu.1 _ _) (hu.2.2.1 _ _) ?_
        refine aX_iload_n dX9_compareSize_17 rfl ?_
        refine nIald (v := nI (jDg y c)) dX9_compareSize_18 (hu.2.1 _ _) (by first | omega | exact Nat.lt_of_le_of_lt (Nat.mod_le _ _) (by omega)) (by decide) (hy c (by omega)) ?_
        refine nEq (tgt := 43) dX9_compareSize_19 (by decide) (by first | omega | exact Nat.lt_of_le_of_lt (Nat.mod_le _ _) (by omega)) (by first | omega | exact Nat.lt_of_le_of_lt (Nat.mod_le _ _) (by omega)) (fun c3 => ?_) (fun c3 => ?_)
        · refine aX_iinc (v := (nI (c)) + (-1)) (lv' := [(0, .ref (o)), (1, .ref (u)), (2, .int ((nI (c)) + (-1)))]) dX9_compareSize_43 rfl rfl (by decide) rfl ?_
          refine aX_goto (tgt := 3) dX9_compareSize_46 (by decide) ?_
          refine aX_lv (lv' := [(0, .ref (o)), (1, .ref (u)), (2, .int (jDn c))]) [0, 1, 2] (by rw [← jDn_dec]; rfl) ?_
          exact ih c (by omega) c (by omega) rfl (by rw [jDg_high x c, jDg_high y c, he]; omega)
        · refine aX_aload_n dX9_compareSize_22 rfl ?_
          refine aX_get (v := .ref (o + 1)) dX9_compareSize_23 lfX9_9 (ho.1 _ _) (ho.2.2.1 _ _) ?_
          refine aX_iload_n dX9_compareSize_26 rfl ?_
          refine nIald (v := nI (jDg x c)) dX9_compareSize_27 (ho.2.1 _ _) (by first | omega | exact Nat.lt_of_le_of_lt (Nat.mod_le _ _) (by omega)) (by decide) (hx c (by omega)) ?_
          refine aX_aload_n dX9_compareSize_28 rfl ?_
          refine aX_get (v := .ref (u + 1)) dX9_compareSize_29 lfX9_9 (hu.1 _ _) (hu.2.2.1 _ _) ?_
          refine aX_iload_n dX9_compareSize_32 rfl ?_
          refine nIald (v := nI (jDg y c)) dX9_compareSize_33 (hu.2.1 _ _) (by first | omega | exact Nat.lt_of_le_of_lt (Nat.mod_le _ _) (by omega)) (by decide) (hy c (by omega)) ?_
          refine nGe (tgt := 41) dX9_compareSize_34 (by decide) (by first | omega | exact Nat.lt_of_le_of_lt (Nat.mod_le _ _) (by omega)) (by first | omega | exact Nat.lt_of_le_of_lt (Nat.mod_le _ _) (by omega)) (fun c4 => ?_) (fun c4 => ?_)
          · refine aX_iconst (v := nI 1) dX9_compareSize_41 (by decide) ?_
            exact rI dX9_compareSize_42 rfl (⟨rfl, by rw [(jCp_at he (by assumption)).2 (by assumption)]⟩)
          · refine aX_iconst (v := (-1)) dX9_compareSize_37 (by decide) ?_
            refine aX_goto (tgt := 42) dX9_compareSize_38 (by decide) ?_
            exact rI dX9_compareSize_42 rfl (⟨rfl, by rw [(jCp_at he (by assumption)).1 (by assumption)]⟩)
set_option maxHeartbeats 1000000 in
theorem c_compareSize {I : Nat → Nat → Int32} {L : Nat → Nat → Int64} {R : Nat → Nat → Option Nat} {o : Nat} (ho : wSh R o) {x : Int} (hx : wD I o x) {u : Nat} (hu : wSh R u) {y : Int} (hy : wD I u y) (hx0 : 0 ≤ x) (hx1 : x < jBB 12) (hy0 : 0 ≤ y) (hy1 : y < jBB 12) : aMp mX9_compareSize [.ref o, .ref u] (sh0, I, L, R) (.int (jCp x y)) := by
  refine aM_of plX9_compareSize (Nat.le_of_ble_eq_true rfl) ?_
  refine aX_bipush (v := nI 11) dX9_compareSize_0 (by decide) ?_
  refine aX_istore_n (lv' := [(0, .ref (o)), (1, .ref (u)), (2, .int (nI (11)))]) dX9_compareSize_2 (by decide) rfl ?_
  exact l_compareSize ho hx hu hy hx0 hx1 hy0 hy1 _ 12 (by omega) rfl (by rw [Int.ediv_eq_zero_of_lt hx0 hx1, Int.ediv_eq_zero_of_lt hy0 hy1])
set_option maxHeartbeats 1000000 in
theorem l_combine {I : Nat → Nat → Int32} {L : Nat → Nat → Int64} {R : Nat → Nat → Option Nat} {o : Nat} (ho : wSh R o) {a : Nat} (ha : wSh R a) {b : Nat} (hb : wSh R b) {x y : Int} (hx : wD I a x) (hy : wD I b y) {sg : Int} (hsg : sg = 1 ∨ sg = -1) : ∀ (k9 i : Nat), i ≤ 12 → 12 - i = k9 → ∀ (c : Int) (I1 : Nat → Nat → Int32), c = (x % jBB i + sg * (y % jBB i)) / jBB i → (∀ j, j < i → I1 (o + 1) j = nI (jDg (x + sg * y) j)) → (∀ j, i ≤ j → j < 12 → I1 (a + 1) j = nI (jDg x j)) → (∀ j, i ≤ j → j < 12 → I1 (b + 1) j = nI (jDg y j)) → rK (o + 1) I I1 → aX mX9_combine aE0 (sh0, I1, L, R) 6 [(0, .ref (o)), (1, .ref (a)), (2, .ref (b)), (3, .int (iZ (sg))), (4, .int (iZ (c))), (5, .int (nI (i)))] [] 0 0 (fun ans h' => ans = none ∧ ∃ I', h' = (sh0, I', L, R) ∧ wD I' o (x + sg * y) ∧ rK (o + 1) I I') := by
  intro k9
  induction k9 using Nat.strongRecOn with
  | _ k9 ih =>
    intro i hi hk9 c  I1  hc hd hup huq hk
    have hl1 := jDg_lt x i
    have hl2 := jDg_lt y i
    have hcb := cmb_b (x := x) (y := y) hsg i
    rw [← hc] at hcb
    have hcr := jCarry (cmb_s (x := x) (y := y) (sg := sg) i) (cmb_r (x := x) (y := y) (sg := sg) i)
    rw [← hc] at hcr
    have hsy : -1073741824 ≤ sg * ((jDg y i : Nat) : Int) ∧ sg * ((jDg y i : Nat) : Int) < 1073741824 := by rcases hsg with rfl | rfl <;> omega
    refine aX_iload dX9_combine_6 rfl ?_
    refine aX_bipush (v := nI 12) dX9_combine_8 (by decide) ?_
    refine nGe (tgt := 60) dX9_combine_10 (by decide) (by first | omega | exact Nat.lt_of_le_of_lt (Nat.mod_le _ _) (by omega)) (by first | omega | exact Nat.lt_of_le_of_lt (Nat.mod_le _ _) (by omega)) (fun c1 => ?_) (fun c1 => ?_)
    · exact rV dX9_combine_60 rfl (⟨rfl, I1, rfl, fun j hj => hd j (by omega), hk⟩)
    · refine aX_iload dX9_combine_13 rfl ?_
      refine aX_aload_n dX9_combine_15 rfl ?_
      refine aX_get (v := .ref (a + 1)) dX9_combine_16 lfX9_9 (ha.1 _ _) (ha.2.2.1 _ _) ?_
      refine aX_iload dX9_combine_19 rfl ?_
      refine nIald (v := nI (jDg x i)) dX9_combine_21 (ha.2.1 _ _) (by first | omega | exact Nat.lt_of_le_of_lt (Nat.mod_le _ _) (by omega)) (by decide) (hup i (Nat.le_refl _) (by omega)) ?_
      refine aX_iload_n dX9_combine_22 rfl ?_
      refine aX_aload_n dX9_combine_23 rfl ?_
      refine aX_get (v := .ref (b + 1)) dX9_combine_24 lfX9_9 (hb.1 _ _) (hb.2.2.1 _ _) ?_
      refine aX_iload dX9_combine_27 rfl ?_
      refine nIald (v := nI (jDg y i)) dX9_combine_29 (hb.2.1 _ _) (by first | omega | exact Nat.lt_of_le_of_lt (Nat.mod_le _ _) (by omega)) (by decide) (huq i (Nat.le_refl _) (by omega)) ?_
      refine zMul (a := sg) (b := ((jDg y i : Nat) : Int)) dX9_combine_30 (rfl) (nZ _) ?_
      refine zAdd (a := ((jDg x i : Nat) : Int)) (b := sg * (((jDg y i : Nat) : Int))) dX9_combine_31 (nZ _) (rfl) ?_
      refine zAdd (a := c) (b := (((jDg x i : Nat) : Int)) + (sg * (((jDg y i : Nat) : Int)))) dX9_combine_32 (rfl) (rfl) ?_
      refine aX_istore (lv' := [(0, .ref (o)), (1, .ref (a)), (2, .ref (b)), (3, .int (iZ (sg))), (4, .int (iZ (c + ((((jDg x i : Nat) : Int)) + (sg * (((jDg y i : Nat) : Int))))))), (5, .int (nI (i)))]) dX9_combine_33 (by decide) rfl ?_
      refine aX_aload_n dX9_combine_35 rfl ?_
      refine aX_get (v := .ref (o + 1)) dX9_combine_36 lfX9_9 (ho.1 _ _) (ho.2.2.1 _ _) ?_
      refine aX_iload dX9_combine_39 rfl ?_
      refine aX_iload dX9_combine_41 rfl ?_
      refine aX_ldc (v := nI 1073741823) dX9_combine_43 lkX9_45 ?_
      refine zAnd 30 dX9_combine_45 rfl (by decide) ?_
      refine nIast dX9_combine_46 (ho.2.1 _ _) (by first | omega | exact Nat.lt_of_le_of_lt (Nat.mod_le _ _) (by omega)) (by decide) ?_
      refine aX_iload dX9_combine_47 rfl ?_
      refine aX_bipush (v := nI 30) dX9_combine_49 (by decide) ?_
      refine zShr dX9_combine_51 (by first | omega | exact Nat.lt_of_le_of_lt (Nat.mod_le _ _) (by omega)) (by first | omega | exact Nat.lt_of_le_of_lt (Nat.mod_le _ _) (by omega)) (by first | omega | exact Nat.lt_of_le_of_lt (Nat.mod_le _ _) (by omega)) ?_
      refine aX_istore (lv' := [(0, .ref (o)), (1, .ref (a)), (2, .ref (b)), (3, .int (iZ (sg))), (4, .int (iZ ((c + ((((jDg x i : Nat) : Int)) + (sg * (((jDg y i : Nat) : Int))))) / 2 ^ 30))), (5, .int (nI (i)))]) dX9_combine_52 (by decide) rfl ?_
      refine nInc (lv' := [(0, .ref (o)), (1, .ref (a)), (2, .ref (b)), (3, .int (iZ (sg))), (4, .int (iZ ((c + ((((jDg x i : Nat) : Int)) + (sg * (((jDg y i : Nat) : Int))))) / 2 ^ 30))), (5, .int (nI (i + 1)))]) dX9_combine_54 rfl rfl (by decide) rfl ?_
      refine aX_goto (tgt := 6) dX9_combine_57 (by decide) ?_
      exact ih (12 - (i + 1)) (by omega) (i + 1) (by omega) rfl _ _ hcr.1.symm (fun j hj => by
        by_cases e : j = i
        · subst e; rw [aU_s, hcr.2]
        · rw [aU_n (by omega)]; exact hd j (by omega)) (fun j h1 h2 => by rw [aU_n (by omega)]; exact hup j (by omega) h2) (fun j h1 h2 => by rw [aU_n (by omega)]; exact huq j (by omega) h2) (fun a j g => by rw [aU_n (by omega)]; exact hk a j g)
set_option maxHeartbeats 1000000 in
theorem c_combine {I : Nat → Nat → Int32} {L : Nat → Nat → Int64} {R : Nat → Nat → Option Nat} {o : Nat} (ho : wSh R o) {a : Nat} (ha : wSh R a) {b : Nat} (hb : wSh R b) {x y : Int} (hx : wD I a x) (hy : wD I b y) {sg : Int} (hsg : sg = 1 ∨ sg = -1) : aM mX9_combine [.ref o, .ref a, .ref b, .int (iZ sg)] (sh0, I, L, R) (fun ans h' => ans = none ∧ ∃ I', h' = (sh0, I', L, R) ∧ wD I' o (x + sg * y) ∧ rK (o + 1) I I') := by
  refine aM_of plX9_combine (Nat.le_of_ble_eq_true rfl) ?_
  refine aX_iconst (v := nI 0) dX9_combine_0 (by decide) ?_
  refine aX_istore (lv' := [(0, .ref (o)), (1, .ref (a)), (2, .ref (b)), (3, .int (iZ (sg))), (4, .int (nI (0)))]) dX9_combine_1 (by decide) rfl ?_
  refine aX_iconst (v := nI 0) dX9_combine_3 (by decide) ?_
  refine aX_istore (lv' := [(0, .ref (o)), (1, .ref (a)), (2, .ref (b)), (3, .int (iZ (sg))), (4, .int (nI (0))), (5, .int (nI (0)))]) dX9_combine_4 (by decide) rfl ?_
  rw [nZ 0]
  exact l_combine ho ha hb hx hy hsg _ 0 (by omega) rfl _ I (by rw [jBB_0, Int.emod_one, Int.emod_one, Int.mul_zero, Int.ediv_one]; rfl) (fun j hj => by omega) (fun j _ hj => hx j hj) (fun j _ hj => hy j hj) (fun _ _ _ => rfl)
