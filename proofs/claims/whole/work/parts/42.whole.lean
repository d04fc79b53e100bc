/-! WHOLE: sums, the last digit, division by an odd number -/
theorem iZm1 : iZ (-1) = (-1) := rfl
theorem jCp_lt {x y : Int} : jCp x y < 0 ↔ x < y := by
  unfold jCp
  by_cases h : x < y
  · rw [if_pos h]; exact ⟨fun _ => h, fun _ => by decide⟩
  · rw [if_neg h]
    refine ⟨fun z => ?_, fun z => absurd z h⟩
    split at z <;> exact absurd z (by decide)
theorem jCp_eq {x y : Int} : jCp x y = nI 0 ↔ x = y := by
  unfold jCp
  by_cases h : x < y
  · rw [if_pos h]; exact ⟨fun z => absurd z (by decide), fun z => by omega⟩
  · rw [if_neg h]
    by_cases e : x = y
    · rw [if_pos e]; exact ⟨fun _ => e, fun _ => rfl⟩
    · rw [if_neg e]; exact ⟨fun z => absurd z (by decide), fun z => absurd z e⟩
theorem jCp_gt {x y : Int} : 0 < jCp x y ↔ y < x := by
  unfold jCp
  by_cases h : x < y
  · rw [if_pos h]; exact ⟨fun z => absurd z (by decide), fun z => by omega⟩
  · rw [if_neg h]
    by_cases e : x = y
    · rw [if_pos e]; exact ⟨fun z => absurd z (by decide), fun z => by omega⟩
    · rw [if_neg e]; exact ⟨fun _ => by omega, fun _ => by decide⟩
def sv (ng : Bool) (x : Int) : Int := if ng then -x else x
theorem svT (x : Int) : sv true x = -x := rfl
theorem svF (x : Int) : sv false x = x := rfl
set_option maxHeartbeats 1000000 in
theorem c_subtractSize {I : Nat → Nat → Int32} {L : Nat → Nat → Int64} {R : Nat → Nat → Option Nat} {o : Nat} (ho : wSh R o) {x : Int} (hx : wD I o x) {u : Nat} (hu : wSh R u) {y : Int} (hy : wD I u y) : aM mX9_subtractSize [.ref o, .ref u] (sh0, I, L, R) (fun ans h' => ans = none ∧ ∃ I', h' = (sh0, I', L, R) ∧ wD I' o (x - y) ∧ rK (o + 1) I I') := by
  refine aM_of plX9_subtractSize (Nat.le_of_ble_eq_true rfl) ?_
  refine aX_aload_n dX9_subtractSize_0 rfl ?_
  refine aX_aload_n dX9_subtractSize_1 rfl ?_
  refine aX_aload_n dX9_subtractSize_2 rfl ?_
  refine aX_iconst (v := (-1)) dX9_subtractSize_3 (by decide) ?_
  refine cV (As := [.ref (o), .ref (u), .int ((-1))]) (st := []) dX9_subtractSize_4 kX9_subtractSize_33 (ho.1 _ _) aEok0 rfl rfl (Nat.le_of_ble_eq_true rfl) (c_combine ho ho hu hx hy (sg := -1) (Or.inr rfl)) (fun r h' hq => ?_)
  obtain ⟨rfl, I2, rfl, hd, hk⟩ := hq
  refine ⟨rfl, ?_⟩
  rw [show x + -1 * y = x - y by omega] at hd
  exact rV dX9_subtractSize_7 rfl (⟨rfl, I2, rfl, hd, hk⟩)
set_option maxHeartbeats 1000000 in
theorem c_add {I : Nat → Nat → Int32} {L : Nat → Nat → Int64} {R : Nat → Nat → Option Nat} {o : Nat} (ho : wSh R o) {u : Nat} (hu : wSh R u) (hne : o ≠ u) {x y : Int} {n1 n2 : Bool} (hx : wR I o x n1) (hy : wR I u y n2) (hx0 : 0 ≤ x) (hy0 : 0 ≤ y) (hxy : x + y < jBB 12) (hp1 : n1 = true → 0 < x) (hp2 : n2 = true → 0 < y) : aM mX9_add [.ref o, .ref u] (sh0, I, L, R) (fun ans h' => ans = none ∧ ∃ I', h' = (sh0, I', L, R) ∧ wR I' o ((sv n1 x + sv n2 y).natAbs : Int) (decide (sv n1 x + sv n2 y < 0)) ∧ oK o I I') := by
  have e1 := ho.2.2.2.1
  have e2 := hu.2.2.2.1
  cases n1 <;> cases n2
  · refine aM_of plX9_add (Nat.le_of_ble_eq_true rfl) ?_
    refine aX_aload_n dX9_add_0 rfl ?_
    refine aX_get (v := .int (bI (false))) dX9_add_1 lfX9_21 (ho.1 _ _) (congrArg Value.int (hx.2)) ?_
    refine aX_aload_n dX9_add_4 rfl ?_
    refine aX_get (v := .int (bI (false))) dX9_add_5 lfX9_21 (hu.1 _ _) (congrArg Value.int (hy.2)) ?_
    refine aX_icmp_ne (tgt := 21) dX9_add_8 (by decide) (fun c1 => ?_) (fun c1 => ?_)
    · exact absurd rfl c1
    · refine aX_aload_n dX9_add_11 rfl ?_
      refine aX_aload_n dX9_add_12 rfl ?_
      refine aX_aload_n dX9_add_13 rfl ?_
      refine aX_iconst (v := nI 1) dX9_add_14 (by decide) ?_
      refine cV (As := [.ref (o), .ref (u), .int (nI (1))]) (st := []) dX9_add_15 kX9_add_33 (ho.1 _ _) aEok0 rfl rfl (Nat.le_of_ble_eq_true rfl) (by rw [nZ 1]; exact c_combine ho ho hu hx.1 hy.1 (sg := 1) (Or.inl rfl)) (fun r h' hq => ?_)
      obtain ⟨rfl, I2, rfl, hd, hk⟩ := hq
      refine ⟨rfl, ?_⟩
      rw [Int.one_mul] at hd
      refine aX_goto (tgt := 78) dX9_add_18 (by decide) ?_
      exact rV dX9_add_78 rfl (⟨rfl, I2, rfl, ⟨by rw [show (((sv false x + sv false y).natAbs : Nat) : Int) = x + y by simp only [svT, svF]; omega]; exact hd, by rw [show decide (sv false x + sv false y < 0) = false from decide_eq_false (by simp only [svT, svF]; omega)]; exact (hk o 1 (by omega)).trans hx.2⟩, rK_oK hk⟩)
  · refine aM_of plX9_add (Nat.le_of_ble_eq_true rfl) ?_
    have hp2 := hp2 rfl
    refine aX_aload_n dX9_add_0 rfl ?_
    refine aX_get (v := .int (bI (false))) dX9_add_1 lfX9_21 (ho.1 _ _) (congrArg Value.int (hx.2)) ?_
    refine aX_aload_n dX9_add_4 rfl ?_
    refine aX_get (v := .int (bI (true))) dX9_add_5 lfX9_21 (hu.1 _ _) (congrArg Value.int (hy.2)) ?_
    refine aX_icmp_ne (tgt := 21) dX9_add_8 (by decide) (fun c1 => ?_) (fun c1 => ?_)
    · refine aX_aload_n dX9_add_21 rfl ?_
      refine aX_aload_n dX9_add_22 rfl ?_
      refine cVp (As := [.ref (u)]) (st := []) (v := .int (jCp x y)) dX9_add_23 kX9_add_37 (ho.1 _ _) aEok0 rfl rfl (Nat.le_of_ble_eq_true rfl) (c_compareSize ho hx.1 hu hy.1 hx0 (by omega) hy0 (by omega)) ?_
      refine aX_if_lt (tgt := 63) dX9_add_26 (by decide) (fun c2 => ?_) (fun c2 => ?_)
      · have hlt : x < y := jCp_lt.mp c2
        refine aX_aload_n dX9_add_63 rfl ?_
        refine aX_aload_n dX9_add_64 rfl ?_
        refine aX_aload_n dX9_add_65 rfl ?_
        refine aX_iconst (v := (-1)) dX9_add_66 (by decide) ?_
        refine cV (As := [.ref (u), .ref (o), .int ((-1))]) (st := []) dX9_add_67 kX9_add_33 (ho.1 _ _) aEok0 rfl rfl (Nat.le_of_ble_eq_true rfl) (c_combine ho hu ho hy.1 hx.1 (sg := -1) (Or.inr rfl)) (fun r h' hq => ?_)
        obtain ⟨rfl, I2, rfl, hd, hk⟩ := hq
        refine ⟨rfl, ?_⟩
        have hn2 : I2 o 1 = bI false := (hk o 1 (by omega)).trans hx.2
        have hu2 : I2 u 1 = bI true := (hk u 1 (by omega)).trans hy.2
        refine aX_aload_n dX9_add_70 rfl ?_
        refine aX_aload_n dX9_add_71 rfl ?_
        refine aX_get (v := .int (bI (true))) dX9_add_72 lfX9_21 (hu.1 _ _) (congrArg Value.int (hu2)) ?_
        refine pZ (b := true) dX9_add_75 lfX9_21 (fun _ _ _ hq => by cases hq; exact Or.inl rfl) (ho.1 _ _) rfl ?_
        exact rV dX9_add_78 rfl (⟨rfl, _, rfl, ⟨fun j hj => by rw [aU_n (by omega), show (((sv false x + sv true y).natAbs : Nat) : Int) = y + -1 * x by simp only [svT, svF]; omega]; exact hd j hj, by rw [aU_s, show decide (sv false x + sv true y < 0) = true from decide_eq_true (by simp only [svT, svF]; omega)]⟩, oK_set (rK_oK hk)⟩)
      · have hlt : ¬ x < y := fun z => c2 (jCp_lt.mpr z)
        refine aX_aload_n dX9_add_29 rfl ?_
        refine aX_aload_n dX9_add_30 rfl ?_
        refine aX_aload_n dX9_add_31 rfl ?_
        refine aX_iconst (v := (-1)) dX9_add_32 (by decide) ?_
        refine cV (As := [.ref (o), .ref (u), .int ((-1))]) (st := []) dX9_add_33 kX9_add_33 (ho.1 _ _) aEok0 rfl rfl (Nat.le_of_ble_eq_true rfl) (c_combine ho ho hu hx.1 hy.1 (sg := -1) (Or.inr rfl)) (fun r h' hq => ?_)
        obtain ⟨rfl, I2, rfl, hd, hk⟩ := hq
        refine ⟨rfl, ?_⟩
        have hn2 : I2 o 1 = bI false := (hk o 1 (by omega)).trans hx.2
        have hu2 : I2 u 1 = bI true := (hk u 1 (by omega)).trans hy.2
        refine aX_aload_n dX9_add_36 rfl ?_
        refine aX_aload_n dX9_add_37 rfl ?_
        refine aX_get (v := .int (bI (false))) dX9_add_38 lfX9_21 (ho.1 _ _) (congrArg Value.int (hn2)) ?_
        refine bEq (tgt := 56) dX9_add_41 (by decide) (fun c3 => ?_) (fun c3 => ?_)
        · refine aX_iconst (v := nI 0) dX9_add_56 (by decide) ?_
          refine pZ (b := false) dX9_add_57 lfX9_21 (fun _ _ _ hq => by cases hq; exact Or.inl rfl) (ho.1 _ _) rfl ?_
          refine aX_goto (tgt := 78) dX9_add_60 (by decide) ?_
          exact rV dX9_add_78 rfl (⟨rfl, _, rfl, ⟨fun j hj => by rw [aU_n (by omega), show (((sv false x + sv true y).natAbs : Nat) : Int) = x + -1 * y by simp only [svT, svF]; omega]; exact hd j hj, by rw [aU_s, show decide (sv false x + sv true y < 0) = false from decide_eq_false (by simp only [svT, svF]; omega)]⟩, oK_set (rK_oK hk)⟩)
        · cases c3
    · exact absurd c1 (by decide)
  · refine aM_of plX9_add (Nat.le_of_ble_eq_true rfl) ?_
    have hp1 := hp1 rfl
    refine aX_aload_n dX9_add_0 rfl ?_
    refine aX_get (v := .int (bI (true))) dX9_add_1 lfX9_21 (ho.1 _ _) (congrArg Value.int (hx.2)) ?_
    refine aX_aload_n dX9_add_4 rfl ?_
    refine aX_get (v := .int (bI (false))) dX9_add_5 lfX9_21 (hu.1 _ _) (congrArg Value.int (hy.2)) ?_
    refine aX_icmp_ne (tgt := 21) dX9_add_8 (by decide) (fun c1 => ?_) (fun c1 => ?_)
    · refine aX_aload_n dX9_add_21 rfl ?_
      refine aX_aload_n dX9_add_22 rfl ?_
      refine cVp (As := [.ref (u)]) (st := []) (v := .int (jCp x y)) dX9_add_23 kX9_add_37 (ho.1 _ _) aEok0 rfl rfl (Nat.le_of_ble_eq_true rfl) (c_compareSize ho hx.1 hu hy.1 hx0 (by omega) hy0 (by omega)) ?_
      refine aX_if_lt (tgt := 63) dX9_add_26 (by decide) (fun c2 => ?_) (fun c2 => ?_)
      · have hlt : x < y := jCp_lt.mp c2
        refine aX_aload_n dX9_add_63 rfl ?_
        refine aX_aload_n dX9_add_64 rfl ?_
        refine aX_aload_n dX9_add_65 rfl ?_
        refine aX_iconst (v := (-1)) dX9_add_66 (by decide) ?_
        refine cV (As := [.ref (u), .ref (o), .int ((-1))]) (st := []) dX9_add_67 kX9_add_33 (ho.1 _ _) aEok0 rfl rfl (Nat.le_of_ble_eq_true rfl) (c_combine ho hu ho hy.1 hx.1 (sg := -1) (Or.inr rfl)) (fun r h' hq => ?_)
        obtain ⟨rfl, I2, rfl, hd, hk⟩ := hq
        refine ⟨rfl, ?_⟩
        have hn2 : I2 o 1 = bI true := (hk o 1 (by omega)).trans hx.2
        have hu2 : I2 u 1 = bI false := (hk u 1 (by omega)).trans hy.2
        refine aX_aload_n dX9_add_70 rfl ?_
        refine aX_aload_n dX9_add_71 rfl ?_
        refine aX_get (v := .int (bI (false))) dX9_add_72 lfX9_21 (hu.1 _ _) (congrArg Value.int (hu2)) ?_
        refine pZ (b := false) dX9_add_75 lfX9_21 (fun _ _ _ hq => by cases hq; exact Or.inl rfl) (ho.1 _ _) rfl ?_
        exact rV dX9_add_78 rfl (⟨rfl, _, rfl, ⟨fun j hj => by rw [aU_n (by omega), show (((sv true x + sv false y).natAbs : Nat) : Int) = y + -1 * x by simp only [svT, svF]; omega]; exact hd j hj, by rw [aU_s, show decide (sv true x + sv false y < 0) = false from decide_eq_false (by simp only [svT, svF]; omega)]⟩, oK_set (rK_oK hk)⟩)
      · have hlt : ¬ x < y := fun z => c2 (jCp_lt.mpr z)
        refine aX_aload_n dX9_add_29 rfl ?_
        refine aX_aload_n dX9_add_30 rfl ?_
        refine aX_aload_n dX9_add_31 rfl ?_
        refine aX_iconst (v := (-1)) dX9_add_32 (by decide) ?_
        refine cV (As := [.ref (o), .ref (u), .int ((-1))]) (st := []) dX9_add_33 kX9_add_33 (ho.1 _ _) aEok0 rfl rfl (Nat.le_of_ble_eq_true rfl) (c_combine ho ho hu hx.1 hy.1 (sg := -1) (Or.inr rfl)) (fun r h' hq => ?_)
        obtain ⟨rfl, I2, rfl, hd, hk⟩ := hq
        refine ⟨rfl, ?_⟩
        have hn2 : I2 o 1 = bI true := (hk o 1 (by omega)).trans hx.2
        have hu2 : I2 u 1 = bI false := (hk u 1 (by omega)).trans hy.2
        refine aX_aload_n dX9_add_36 rfl ?_
        refine aX_aload_n dX9_add_37 rfl ?_
        refine aX_get (v := .int (bI (true))) dX9_add_38 lfX9_21 (ho.1 _ _) (congrArg Value.int (hn2)) ?_
        refine bEq (tgt := 56) dX9_add_41 (by decide) (fun c3 => ?_) (fun c3 => ?_)
        · cases c3
        · refine aX_aload_n dX9_add_44 rfl ?_
          refine aX_iconst (v := nI 0) dX9_add_45 (by decide) ?_
          refine cVp (As := [.int (nI (0))]) (st := [.ref (o)]) (v := .int (bI (decide (x + -1 * y = ((0 : Nat) : Int))))) dX9_add_46 kX9_add_41 (ho.1 _ _) aEok0 rfl rfl (Nat.le_of_ble_eq_true rfl) (c_hasSize ho hd (by omega) (by omega) (by decide)) ?_
          refine bNe (tgt := 56) dX9_add_49 (by decide) (fun c4 => ?_) (fun c4 => ?_)
          · simp at c4
            refine aX_iconst (v := nI 0) dX9_add_56 (by decide) ?_
            refine pZ (b := false) dX9_add_57 lfX9_21 (fun _ _ _ hq => by cases hq; exact Or.inl rfl) (ho.1 _ _) rfl ?_
            refine aX_goto (tgt := 78) dX9_add_60 (by decide) ?_
            exact rV dX9_add_78 rfl (⟨rfl, _, rfl, ⟨fun j hj => by rw [aU_n (by omega), show (((sv true x + sv false y).natAbs : Nat) : Int) = x + -1 * y by simp only [svT, svF]; omega]; exact hd j hj, by rw [aU_s, show decide (sv true x + sv false y < 0) = false from decide_eq_false (by simp only [svT, svF]; omega)]⟩, oK_set (rK_oK hk)⟩)
          · simp at c4
            refine aX_iconst (v := nI 1) dX9_add_52 (by decide) ?_
            refine aX_goto (tgt := 57) dX9_add_53 (by decide) ?_
            refine pZ (b := true) dX9_add_57 lfX9_21 (fun _ _ _ hq => by cases hq; exact Or.inl rfl) (ho.1 _ _) rfl ?_
            refine aX_goto (tgt := 78) dX9_add_60 (by decide) ?_
            exact rV dX9_add_78 rfl (⟨rfl, _, rfl, ⟨fun j hj => by rw [aU_n (by omega), show (((sv true x + sv false y).natAbs : Nat) : Int) = x + -1 * y by simp only [svT, svF]; omega]; exact hd j hj, by rw [aU_s, show decide (sv true x + sv false y < 0) = true from decide_eq_true (by simp only [svT, svF]; omega)]⟩, oK_set (rK_oK hk)⟩)
    · exact absurd c1 (by decide)
  · refine aM_of plX9_add (Nat.le_of_ble_eq_true rfl) ?_
    have hp1 := hp1 rfl
    have hp2 := hp2 rfl
    refine aX_aload_n dX9_add_0 rfl ?_
    refine aX_get (v := .int (bI (true))) dX9_add_1 lfX9_21 (ho.1 _ _) (congrArg Value.int (hx.2)) ?_
    refine aX_aload_n dX9_add_4 rfl ?_
    refine aX_get (v := .int (bI (true))) dX9_add_5 lfX9_21 (hu.1 _ _) (congrArg Value.int (hy.2)) ?_
    refine aX_icmp_ne (tgt := 21) dX9_add_8 (by decide) (fun c1 => ?_) (fun c1 => ?_)
    · exact absurd rfl c1
    · refine aX_aload_n dX9_add_11 rfl ?_
      refine aX_aload_n dX9_add_12 rfl ?_
      refine aX_aload_n dX9_add_13 rfl ?_
      refine aX_iconst (v := nI 1) dX9_add_14 (by decide) ?_
      refine cV (As := [.ref (o), .ref (u), .int (nI (1))]) (st := []) dX9_add_15 kX9_add_33 (ho.1 _ _) aEok0 rfl rfl (Nat.le_of_ble_eq_true rfl) (by rw [nZ 1]; exact c_combine ho ho hu hx.1 hy.1 (sg := 1) (Or.inl rfl)) (fun r h' hq => ?_)
      obtain ⟨rfl, I2, rfl, hd, hk⟩ := hq
      refine ⟨rfl, ?_⟩
      rw [Int.one_mul] at hd
      refine aX_goto (tgt := 78) dX9_add_18 (by decide) ?_
      exact rV dX9_add_78 rfl (⟨rfl, I2, rfl, ⟨by rw [show (((sv true x + sv true y).natAbs : Nat) : Int) = x + y by simp only [svT, svF]; omega]; exact hd, by rw [show decide (sv true x + sv true y < 0) = true from decide_eq_true (by simp only [svT, svF]; omega)]; exact (hk o 1 (by omega)).trans hx.2⟩, rK_oK hk⟩)
theorem dd_dig {x : Int} {c : Nat} (h0 : 0 ≤ x) {rest : Nat} (hr : ((rest : Nat) : Int) = x / jBB (c + 1) % 10) : jDg (x / 10) c = (rest * 2 ^ 30 + jDg x c) / 10 ∧ (((rest * 2 ^ 30 + jDg x c) % 10 : Nat) : Int) = x / jBB c % 10 := by
  have h1 := jDg_high x c
  have hl := jDg_lt x c
  have hr10 : rest < 10 := by have := Int.emod_lt_of_pos (x / jBB (c + 1)) (show (0 : Int) < 10 by decide); omega
  have e : x / 10 / jBB c = x / jBB c / 10 := by
    rw [Int.ediv_ediv_of_nonneg (by decide), Int.ediv_ediv_of_nonneg (Int.le_of_lt (jBB_pos c)), Int.mul_comm]
  have h2 := Int.emod_add_mul_ediv (x / jBB (c + 1)) 10
  constructor
  · have h3 := jDg_c (x / 10) c
    rw [e, h1] at h3
    omega
  · rw [h1]
    omega
theorem lN_shl {a : Nat} (h : a < 10) : lN a <<< ((nI 30).toInt64 &&& 63) = lN (a * 2 ^ 30) := by
  have : ∀ b : Nat, b < 10 → lN b <<< ((nI 30).toInt64 &&& 63) = lN (b * 2 ^ 30) := by decide
  exact this a h
theorem lN_or {a b : Nat} (ha : a < 10) (hb : b < 1073741824) : lN (a * 2 ^ 30) ||| lN b = lN (a * 2 ^ 30 + b) := by
  apply Int64.toBitVec.inj
  apply BitVec.eq_of_toNat_eq
  have h1 : (lN (a * 2 ^ 30)).toBitVec = BitVec.ofNat 64 (a * 2 ^ 30) := Int64.toBitVec_ofNat'
  have h2 : (lN b).toBitVec = BitVec.ofNat 64 b := Int64.toBitVec_ofNat'
  have h3 : (lN (a * 2 ^ 30 + b)).toBitVec = BitVec.ofNat 64 (a * 2 ^ 30 + b) := Int64.toBitVec_ofNat'
  rw [Int64.toBitVec_or, h1, h2, h3, BitVec.toNat_or, BitVec.toNat_ofNat, BitVec.toNat_ofNat, BitVec.toNat_ofNat, Nat.mod_eq_of_lt (by omega), Nat.mod_eq_of_lt (by omega), Nat.mod_eq_of_lt (by omega), ← Nat.shiftLeft_eq, Nat.shiftLeft_add_eq_or_of_lt (show b < 2 ^ 30 from hb)]
set_option maxHeartbeats 1000000 in
theorem l_dropDigit {I : Nat → Nat → Int32} {L : Nat → Nat → Int64} {R : Nat → Nat → Option Nat} {o : Nat} (ho : wSh R o) {x : Int} (hx : wD I o x) (hx0 : 0 ≤ x) (hx1 : x < jBB 12) : ∀ (k9 c : Nat), c ≤ 12 → c = k9 → ∀ (rest : Nat) (I1 : Nat → Nat → Int32), ((rest : Nat) : Int) = x / jBB c % 10 → (∀ j, c ≤ j → j < 12 → I1 (o + 1) j = nI (jDg (x / 10) j)) → (∀ j, j < c → I1 (o + 1) j = nI (jDg x j)) → rK (o + 1) I I1 → aX mX9_dropDigit aE0 (sh0, I1, L, R) 5 [(0, .ref (o)), (1, .long (lN (rest))), (3, .int (jDn c))] [] 0 0 (fun ans h' => ans = some (.int (nI (x % 10).toNat)) ∧ ∃ I', h' = (sh0, I', L, R) ∧ wD I' o (x / 10) ∧ rK (o + 1) I I') := by
  intro k9
  induction k9 using Nat.strongRecOn with
  | _ k9 ih =>
    intro c hi hk9 rest  I1  hr hd hup hk
    cases c with
    | zero =>
      refine aX_iload_n dX9_dropDigit_5 rfl ?_
      refine aX_if_lt (tgt := 46) dX9_dropDigit_6 (by decide) (fun c1 => ?_) (fun c1 => ?_)
      · refine aX_lload_n dX9_dropDigit_46 rfl ?_
        refine kL2i dX9_dropDigit_47 ?_
        exact rI dX9_dropDigit_48 rfl (⟨by rw [jBB_0, Int.ediv_one] at hr; rw [show rest = (x % 10).toNat by omega], I1, rfl, fun j hj => hd j (Nat.zero_le _) hj, hk⟩)
      · exact absurd (by decide) c1
    | succ c =>
      have hl1 := jDg_lt x c
      have hr10 : rest < 10 := by have := Int.emod_lt_of_pos (x / jBB (c + 1)) (show (0 : Int) < 10 by decide); omega
      have hdd := dd_dig hx0 hr
      refine aX_iload_n dX9_dropDigit_5 rfl ?_
      refine aX_if_lt (tgt := 46) dX9_dropDigit_6 (by decide) (fun c2 => ?_) (fun c2 => ?_)
      · exact absurd c2 (nI_pos (by omega))
      · refine aX_lload_n dX9_dropDigit_9 rfl ?_
        refine aX_bipush (v := nI 30) dX9_dropDigit_10 (by decide) ?_
        refine aX_lshl dX9_dropDigit_12 ?_
        rw [lN_shl (by first | omega | exact Nat.lt_of_le_of_lt (Nat.mod_le _ _) (by omega))]
        refine aX_aload_n dX9_dropDigit_13 rfl ?_
        refine aX_get (v := .ref (o + 1)) dX9_dropDigit_14 lfX9_9 (ho.1 _ _) (ho.2.2.1 _ _) ?_
        refine aX_iload_n dX9_dropDigit_17 rfl ?_
        refine nIald (v := nI (jDg x c)) dX9_dropDigit_18 (ho.2.1 _ _) (by first | omega | exact Nat.lt_of_le_of_lt (Nat.mod_le _ _) (by omega)) (by decide) (hup c (by omega)) ?_
        refine kI2l dX9_dropDigit_19 (by first | omega | exact Nat.lt_of_le_of_lt (Nat.mod_le _ _) (by omega)) ?_
        refine aX_lor dX9_dropDigit_20 ?_
        rw [lN_or hr10 hl1]
        refine aX_lstore_n (lv' := [(0, .ref (o)), (1, .long (lN (rest * 2 ^ 30 + jDg x c))), (3, .int (nI (c)))]) dX9_dropDigit_21 (by decide) rfl ?_
        refine aX_aload_n dX9_dropDigit_22 rfl ?_
        refine aX_get (v := .ref (o + 1)) dX9_dropDigit_23 lfX9_9 (ho.1 _ _) (ho.2.2.1 _ _) ?_
        refine aX_iload_n dX9_dropDigit_26 rfl ?_
        refine aX_lload_n dX9_dropDigit_27 rfl ?_
        refine aX_ldc2 (v := lN 10) dX9_dropDigit_28 lkX9_55 ?_
        refine kDiv dX9_dropDigit_31 (by first | omega | exact Nat.lt_of_le_of_lt (Nat.mod_le _ _) (by omega)) (by first | omega | exact Nat.lt_of_le_of_lt (Nat.mod_le _ _) (by omega)) (by first | omega | exact Nat.lt_of_le_of_lt (Nat.mod_le _ _) (by omega)) ?_
        refine kL2i dX9_dropDigit_32 ?_
        refine nIast dX9_dropDigit_33 (ho.2.1 _ _) (by first | omega | exact Nat.lt_of_le_of_lt (Nat.mod_le _ _) (by omega)) (by decide) ?_
        refine aX_lload_n dX9_dropDigit_34 rfl ?_
        refine aX_ldc2 (v := lN 10) dX9_dropDigit_35 lkX9_55 ?_
        refine kRem dX9_dropDigit_38 (by first | omega | exact Nat.lt_of_le_of_lt (Nat.mod_le _ _) (by omega)) (by first | omega | exact Nat.lt_of_le_of_lt (Nat.mod_le _ _) (by omega)) (by first | omega | exact Nat.lt_of_le_of_lt (Nat.mod_le _ _) (by omega)) ?_
        refine aX_lstore_n (lv' := [(0, .ref (o)), (1, .long (lN ((rest * 2 ^ 30 + jDg x c) % 10))), (3, .int (nI (c)))]) dX9_dropDigit_39 (by decide) rfl ?_
        refine aX_iinc (v := (nI (c)) + (-1)) (lv' := [(0, .ref (o)), (1, .long (lN ((rest * 2 ^ 30 + jDg x c) % 10))), (3, .int ((nI (c)) + (-1)))]) dX9_dropDigit_40 rfl rfl (by decide) rfl ?_
        refine aX_goto (tgt := 5) dX9_dropDigit_43 (by decide) ?_
        refine aX_lv (lv' := [(0, .ref (o)), (1, .long (lN ((rest * 2 ^ 30 + jDg x c) % 10))), (3, .int (jDn c))]) [0, 1, 2] (by rw [← jDn_dec]; rfl) ?_
        exact ih c (by omega) c (by omega) rfl _ _ hdd.2 (fun j h1 h2 => by
          by_cases e : j = c
          · subst e; rw [aU_s, hdd.1]
          · rw [aU_n (by omega)]; exact hd j (by omega) h2) (fun j hj => by rw [aU_n (by omega)]; exact hup j (by omega)) (fun a j g => by rw [aU_n (by omega)]; exact hk a j g)
set_option maxHeartbeats 1000000 in
theorem c_dropDigit {I : Nat → Nat → Int32} {L : Nat → Nat → Int64} {R : Nat → Nat → Option Nat} {o : Nat} (ho : wSh R o) {x : Int} (hx : wD I o x) (hx0 : 0 ≤ x) (hx1 : x < jBB 12) : aM mX9_dropDigit [.ref o] (sh0, I, L, R) (fun ans h' => ans = some (.int (nI (x % 10).toNat)) ∧ ∃ I', h' = (sh0, I', L, R) ∧ wD I' o (x / 10) ∧ rK (o + 1) I I') := by
  refine aM_of plX9_dropDigit (Nat.le_of_ble_eq_true rfl) ?_
  refine aX_lconst (v := lN 0) dX9_dropDigit_0 rfl ?_
  refine aX_lstore_n (lv' := [(0, .ref (o)), (1, .long (lN (0)))]) dX9_dropDigit_1 (by decide) rfl ?_
  refine aX_bipush (v := nI 11) dX9_dropDigit_2 (by decide) ?_
  refine aX_istore_n (lv' := [(0, .ref (o)), (1, .long (lN (0))), (3, .int (nI (11)))]) dX9_dropDigit_4 (by decide) rfl ?_
  exact l_dropDigit ho hx hx0 hx1 _ 12 (by omega) rfl 0 I (by rw [Int.ediv_eq_zero_of_lt hx0 hx1]; rfl) (fun j h1 h2 => by omega) (fun j hj => hx j hj) (fun _ _ _ => rfl)
theorem inv_step {l v : Int} {n : Nat} (h : (2 : Int) ^ n ∣ l * v - 1) : (2 : Int) ^ (2 * n) ∣ l * (v * (2 - l * v)) - 1 := by
  obtain ⟨k, hk⟩ := h
  refine ⟨-(k * k), ?_⟩
  rw [Nat.two_mul, Int.pow_add]
  have : l * v = 1 + 2 ^ n * k := by omega
  have e : l * (v * (2 - l * v)) - 1 = -((l * v - 1) * (l * v - 1)) := by grind
  rw [e, hk]
  grind
theorem inv_first {l : Nat} (h : l % 2 = 1) : (2 : Int) ^ 3 ∣ (l : Int) * l - 1 := by
  obtain ⟨m, hm⟩ : ∃ m, l = 2 * m + 1 := ⟨l / 2, by omega⟩
  obtain ⟨k, hk⟩ : ∃ k, m * (m + 1) = 2 * k := by
    rcases Nat.mod_two_eq_zero_or_one m with z | z
    · exact ⟨m / 2 * (m + 1), by rw [← Nat.mul_assoc, show 2 * (m / 2) = m by omega]⟩
    · exact ⟨m * ((m + 1) / 2), by rw [Nat.mul_left_comm, show 2 * ((m + 1) / 2) = m + 1 by omega]⟩
  refine ⟨k, ?_⟩
  have h1 : l * l = 4 * (m * (m + 1)) + 1 := by subst hm; grind
  have h2 : ((l * l : Nat) : Int) = 8 * (k : Int) + 1 := by rw [h1, hk]; omega
  rw [← Int.natCast_mul, h2]
  omega
set_option maxHeartbeats 1000000 in
theorem l_inverse9 {I : Nat → Nat → Int32} {L : Nat → Nat → Int64} {R : Nat → Nat → Option Nat} {o : Nat} (ho : wSh R o) {x : Int} (hx : wD I o x) (hodd : jDg x 0 % 2 = 1) : ∀ (k9 i : Nat), i ≤ 4 → 4 - i = k9 → ∀ (v : Int), (2 : Int) ^ (3 * 2 ^ i) ∣ ((jDg x 0 : Nat) : Int) * v - 1 → aX mX9_inverseOfLowest aE0 (sh0, I, L, R) 9 [(0, .ref (o)), (1, .int (iZ (v))), (2, .int (nI (i)))] [] 0 0 (fun ans h' => h' = (sh0, I, L, R) ∧ ∃ v : Int, (2 : Int) ^ 30 ∣ ((jDg x 0 : Nat) : Int) * v - 1 ∧ ans = some (.int (iZ v))) := by
  intro k9
  induction k9 using Nat.strongRecOn with
  | _ k9 ih =>
    intro i hi hk9 v  hv
    refine aX_iload_n dX9_inverseOfLowest_9 rfl ?_
    refine aX_iconst (v := nI 4) dX9_inverseOfLowest_10 (by decide) ?_
    refine nGe (tgt := 33) dX9_inverseOfLowest_11 (by decide) (by first | omega | exact Nat.lt_of_le_of_lt (Nat.mod_le _ _) (by omega)) (by first | omega | exact Nat.lt_of_le_of_lt (Nat.mod_le _ _) (by omega)) (fun c1 => ?_) (fun c1 => ?_)
    · refine aX_iload_n dX9_inverseOfLowest_33 rfl ?_
      exact rI dX9_inverseOfLowest_34 rfl (⟨rfl, v, Int.dvd_trans (by rw [show i = 4 by omega]; exact ⟨2 ^ 18, rfl⟩) hv, rfl⟩)
    · refine aX_iload_n dX9_inverseOfLowest_14 rfl ?_
      refine aX_iconst (v := nI 2) dX9_inverseOfLowest_15 (by decide) ?_
      refine aX_aload_n dX9_inverseOfLowest_16 rfl ?_
      refine aX_get (v := .ref (o + 1)) dX9_inverseOfLowest_17 lfX9_9 (ho.1 _ _) (ho.2.2.1 _ _) ?_
      refine aX_iconst (v := nI 0) dX9_inverseOfLowest_20 (by decide) ?_
      refine nIald (v := nI (jDg x 0)) dX9_inverseOfLowest_21 (ho.2.1 _ _) (by first | omega | exact Nat.lt_of_le_of_lt (Nat.mod_le _ _) (by omega)) (by decide) (hx 0 (by decide)) ?_
      refine aX_iload_n dX9_inverseOfLowest_22 rfl ?_
      refine zMul (a := ((jDg x 0 : Nat) : Int)) (b := v) dX9_inverseOfLowest_23 (nZ _) (rfl) ?_
      refine zSub (a := ((2 : Nat) : Int)) (b := (((jDg x 0 : Nat) : Int)) * v) dX9_inverseOfLowest_24 (nZ _) (rfl) ?_
      refine zMul (a := v) (b := (((2 : Nat) : Int)) - ((((jDg x 0 : Nat) : Int)) * v)) dX9_inverseOfLowest_25 (rfl) (rfl) ?_
      refine aX_istore_n (lv' := [(0, .ref (o)), (1, .int (iZ (v * ((((2 : Nat) : Int)) - ((((jDg x 0 : Nat) : Int)) * v))))), (2, .int (nI (i)))]) dX9_inverseOfLowest_26 (by decide) rfl ?_
      refine nInc (lv' := [(0, .ref (o)), (1, .int (iZ (v * ((((2 : Nat) : Int)) - ((((jDg x 0 : Nat) : Int)) * v))))), (2, .int (nI (i + 1)))]) dX9_inverseOfLowest_27 rfl rfl (by decide) rfl ?_
      refine aX_goto (tgt := 9) dX9_inverseOfLowest_30 (by decide) ?_
      exact ih (4 - (i + 1)) (by omega) (i + 1) (by omega) rfl _ (by rw [Nat.pow_succ, Nat.mul_comm (2 ^ i), Nat.mul_left_comm]; exact inv_step hv)
set_option maxHeartbeats 1000000 in
theorem c_inverseOfLowest {I : Nat → Nat → Int32} {L : Nat → Nat → Int64} {R : Nat → Nat → Option Nat} {o : Nat} (ho : wSh R o) {x : Int} (hx : wD I o x) (hodd : jDg x 0 % 2 = 1) : aM mX9_inverseOfLowest [.ref o] (sh0, I, L, R) (fun ans h' => h' = (sh0, I, L, R) ∧ ∃ v : Int, (2 : Int) ^ 30 ∣ ((jDg x 0 : Nat) : Int) * v - 1 ∧ ans = some (.int (iZ v))) := by
  refine aM_of plX9_inverseOfLowest (Nat.le_of_ble_eq_true rfl) ?_
  refine aX_aload_n dX9_inverseOfLowest_0 rfl ?_
  refine aX_get (v := .ref (o + 1)) dX9_inverseOfLowest_1 lfX9_9 (ho.1 _ _) (ho.2.2.1 _ _) ?_
  refine aX_iconst (v := nI 0) dX9_inverseOfLowest_4 (by decide) ?_
  refine nIald (v := nI (jDg x 0)) dX9_inverseOfLowest_5 (ho.2.1 _ _) (by first | omega | exact Nat.lt_of_le_of_lt (Nat.mod_le _ _) (by omega)) (by decide) (hx 0 (by decide)) ?_
  refine aX_istore_n (lv' := [(0, .ref (o)), (1, .int (nI (jDg x 0)))]) dX9_inverseOfLowest_6 (by decide) rfl ?_
  refine aX_iconst (v := nI 0) dX9_inverseOfLowest_7 (by decide) ?_
  refine aX_istore_n (lv' := [(0, .ref (o)), (1, .int (nI (jDg x 0))), (2, .int (nI (0)))]) dX9_inverseOfLowest_8 (by decide) rfl ?_
  rw [nZ (jDg x 0)]
  exact l_inverse9 ho hx hodd _ 0 (by omega) rfl _ (inv_first hodd)
theorem jDg_shift {y : Int} {i j : Nat} (h : i ≤ j) : jDg (y * jBB i) j = jDg y (j - i) := by
  unfold jDg
  rw [show jBB j = jBB i * jBB (j - i) by rw [← jBB_add]; congr 1; omega, Int.mul_comm y, Int.mul_ediv_mul_of_pos _ _ (jBB_pos i)]
theorem dv_V {x y z : Int} (hx : x = y * z) (i : Nat) : x - (z % jBB i) * y = jBB i * (y * (z / jBB i)) := by
  have := Int.emod_add_mul_ediv z (jBB i)
  subst hx
  have e : z - z % jBB i = jBB i * (z / jBB i) := by omega
  have : y * z - (z % jBB i) * y = y * (z - z % jBB i) := by grind
  rw [this, e]
  grind
theorem dv_q {x y z v : Int} (hx : x = y * z) (hv : (2 : Int) ^ 30 ∣ ((jDg y 0 : Nat) : Int) * v - 1) (i : Nat) : (((jDg (x - (z % jBB i) * y) i : Nat) : Int) * v % 2 ^ 30).toNat = jDg z i := by
  rw [jDg_c, dv_V hx, Int.mul_ediv_cancel_left _ (jBB_nz i)]
  have h0 : ((jDg y 0 : Nat) : Int) = y % 2 ^ 30 := by rw [jDg_c, jBB_0, Int.ediv_one]
  rw [h0] at hv
  obtain ⟨k, hk⟩ := hv
  have hy := Int.emod_add_mul_ediv y (2 ^ 30)
  have hw := Int.emod_add_mul_ediv (y * (z / jBB i)) (2 ^ 30)
  have e : (y * (z / jBB i)) % 2 ^ 30 * v = z / jBB i + 2 ^ 30 * (k * (z / jBB i) + y / 2 ^ 30 * (z / jBB i) * v - (y * (z / jBB i)) / 2 ^ 30 * v) := by
    have e1 : (y * (z / jBB i)) % 2 ^ 30 = y * (z / jBB i) - 2 ^ 30 * ((y * (z / jBB i)) / 2 ^ 30) := by omega
    have e2 : y % 2 ^ 30 * v = 1 + 2 ^ 30 * k := by omega
    have e3 : y * v = 1 + 2 ^ 30 * k + 2 ^ 30 * (y / 2 ^ 30 * v) := by
      rw [← e2]
      have : y * v = (y % 2 ^ 30 + 2 ^ 30 * (y / 2 ^ 30)) * v := by rw [hy]
      rw [this]
      grind
    rw [e1]
    have e4 : (y * (z / jBB i) - 2 ^ 30 * ((y * (z / jBB i)) / 2 ^ 30)) * v = (y * v) * (z / jBB i) - 2 ^ 30 * ((y * (z / jBB i)) / 2 ^ 30) * v := by grind
    rw [e4, e3]
    grind
  rw [e, Int.add_mul_emod_self_left]
  rfl
theorem cmb_bq {x y q : Int} (hq : 0 ≤ q) (i : Nat) : -q ≤ (x % jBB i + -q * (y % jBB i)) / jBB i ∧ (x % jBB i + -q * (y % jBB i)) / jBB i ≤ 0 := by
  have h1 := Int.emod_nonneg x (jBB_nz i)
  have h2 := Int.emod_lt_of_pos x (jBB_pos i)
  have h3 := Int.emod_nonneg y (jBB_nz i)
  have h4 := Int.emod_lt_of_pos y (jBB_pos i)
  have h5 : q * (y % jBB i) ≤ q * jBB i := Int.mul_le_mul_of_nonneg_left (by omega) hq
  have h6 : 0 ≤ q * (y % jBB i) := Int.mul_nonneg hq h3
  have e : -q * (y % jBB i) = -(q * (y % jBB i)) := Int.neg_mul ..
  rw [e]
  exact e_bound (jBB_pos i) (by rw [Int.neg_mul]; omega) (by omega)
set_option maxHeartbeats 1000000 in
theorem l_divIn {I : Nat → Nat → Int32} {L : Nat → Nat → Int64} {R : Nat → Nat → Option Nat} {o : Nat} (ho : wSh R o) {x : Int} (hx : wD I o x) {u : Nat} (hu : wSh R u) (hne : o ≠ u) {y z : Int} (hy : wD I u y) (hyo : jDg y 0 % 2 = 1) (hxz : x = y * z) {v : Int} {i : Nat} (hi12 : i < 12) {Q : Option Value → aH → Prop} (kk : ∀ (c : Int) (I1 : Nat → Nat → Int32), (∀ a, a < i → I1 (o + 1) a = nI (jDg z a)) → (∀ a, i ≤ a → a < 12 → I1 (o + 1) a = nI (jDg (x - (z % jBB (i + 1)) * y) a)) → rK (o + 1) I I1 → aX mX9_divideByOdd aE0 (sh0, I1, L, R) 94 [(0, .ref o), (1, .ref u), (2, .int (iZ v)), (3, .int (nI i)), (4, .int (nI (jDg z i))), (5, .long (lZ c)), (7, .int (nI 12))] [] 0 0 Q) : ∀ (k9 j : Nat), j ≤ 12 → 12 - j = k9 → ∀ (c : Int) (I1 : Nat → Nat → Int32), i ≤ j → c = ((x - (z % jBB i) * y) % jBB j + -((jDg z i : Nat) : Int) * ((y * jBB i) % jBB j)) / jBB j → (∀ a, a < i → I1 (o + 1) a = nI (jDg z a)) → (∀ a, i ≤ a → a < j → I1 (o + 1) a = nI (jDg (x - (z % jBB (i + 1)) * y) a)) → (∀ a, j ≤ a → a < 12 → I1 (o + 1) a = nI (jDg (x - (z % jBB i) * y) a)) → rK (o + 1) I I1 → aX mX9_divideByOdd aE0 (sh0, I1, L, R) 32 [(0, .ref (o)), (1, .ref (u)), (2, .int (iZ (v))), (3, .int (nI (i))), (4, .int (nI (jDg z i))), (5, .long (lZ (c))), (7, .int (nI (j)))] [] 0 0 Q := by
  intro k9
  induction k9 using Nat.strongRecOn with
  | _ k9 ih =>
    intro j hi hk9 c  I1  hij hc hlo hmi hup hk
    have e1 := ho.2.2.2.1
    have e2 := hu.2.2.2.1
    have hl1 := jDg_lt (x - (z % jBB i) * y) j
    have hl2 := jDg_lt y (j - i)
    have hl3 := jDg_lt z i
    have hcb := cmb_bq (x := x - (z % jBB i) * y) (y := y * jBB i) (q := ((jDg z i : Nat) : Int)) (by omega) j
    rw [← hc] at hcb
    have hse := cmb_s (x := x - (z % jBB i) * y) (y := y * jBB i) (sg := -((jDg z i : Nat) : Int)) j
    rw [jDg_shift (by omega), show ((jDg (x - z % jBB i * y) j : Nat) : Int) + -((jDg z i : Nat) : Int) * ((jDg y (j - i) : Nat) : Int) = ((jDg (x - z % jBB i * y) j : Nat) : Int) - ((jDg z i * jDg y (j - i) : Nat) : Int) by rw [Int.neg_mul]; push_cast; omega] at hse
    have hcr := jCarry hse (cmb_r (x := x - (z % jBB i) * y) (y := y * jBB i) (sg := -((jDg z i : Nat) : Int)) j)
    rw [← hc] at hcr
    rw [show x - z % jBB i * y + -((jDg z i : Nat) : Int) * (y * jBB i) = x - (z % jBB (i + 1)) * y by rw [jDg_low z i]; grind] at hcr
    have hmul : jDg z i * jDg y (j - i) ≤ 1073741824 * 1073741824 := Nat.mul_le_mul (by omega) (by omega)
    refine aX_iload dX9_divideByOdd_32 rfl ?_
    refine aX_bipush (v := nI 12) dX9_divideByOdd_34 (by decide) ?_
    refine nGe (tgt := 94) dX9_divideByOdd_36 (by decide) (by first | omega | exact Nat.lt_of_le_of_lt (Nat.mod_le _ _) (by omega)) (by first | omega | exact Nat.lt_of_le_of_lt (Nat.mod_le _ _) (by omega)) (fun c1 => ?_) (fun c1 => ?_)
    · obtain rfl : j = 12 := by omega
      exact kk c I1 hlo hmi hk
    · refine aX_lload dX9_divideByOdd_39 rfl ?_
      refine aX_aload_n dX9_divideByOdd_41 rfl ?_
      refine aX_get (v := .ref (o + 1)) dX9_divideByOdd_42 lfX9_9 (ho.1 _ _) (ho.2.2.1 _ _) ?_
      refine aX_iload dX9_divideByOdd_45 rfl ?_
      refine nIald (v := nI (jDg (x - (z % jBB i) * y) j)) dX9_divideByOdd_47 (ho.2.1 _ _) (by first | omega | exact Nat.lt_of_le_of_lt (Nat.mod_le _ _) (by omega)) (by decide) (hup j (Nat.le_refl _) (by omega)) ?_
      refine kI2l dX9_divideByOdd_48 (by first | omega | exact Nat.lt_of_le_of_lt (Nat.mod_le _ _) (by omega)) ?_
      refine aX_iload dX9_divideByOdd_49 rfl ?_
      refine kI2l dX9_divideByOdd_51 (by first | omega | exact Nat.lt_of_le_of_lt (Nat.mod_le _ _) (by omega)) ?_
      refine aX_aload_n dX9_divideByOdd_52 rfl ?_
      refine aX_get (v := .ref (u + 1)) dX9_divideByOdd_53 lfX9_9 (hu.1 _ _) (hu.2.2.1 _ _) ?_
      refine aX_iload dX9_divideByOdd_56 rfl ?_
      refine aX_iload_n dX9_divideByOdd_58 rfl ?_
      refine nSub dX9_divideByOdd_59 (by first | omega | exact Nat.lt_of_le_of_lt (Nat.mod_le _ _) (by omega)) ?_
      refine nIald (v := nI (jDg y (j - i))) dX9_divideByOdd_60 (hu.2.1 _ _) (by first | omega | exact Nat.lt_of_le_of_lt (Nat.mod_le _ _) (by omega)) (by decide) ((hk (u + 1) _ (by omega)).trans (hy _ (by omega))) ?_
      refine kI2l dX9_divideByOdd_61 (by first | omega | exact Nat.lt_of_le_of_lt (Nat.mod_le _ _) (by omega)) ?_
      refine kMul dX9_divideByOdd_62 ?_
      refine ySub (a := ((jDg (x - (z % jBB i) * y) j : Nat) : Int)) (b := (((jDg z i) * (jDg y (j - i)) : Nat) : Int)) dX9_divideByOdd_63 (kZ _) (kZ _) ?_
      refine yAdd (a := c) (b := (((jDg (x - (z % jBB i) * y) j : Nat) : Int)) - ((((jDg z i) * (jDg y (j - i)) : Nat) : Int))) dX9_divideByOdd_64 (rfl) (rfl) ?_
      refine aX_lstore (lv' := [(0, .ref (o)), (1, .ref (u)), (2, .int (iZ (v))), (3, .int (nI (i))), (4, .int (nI (jDg z i))), (5, .long (lZ (c + ((((jDg (x - (z % jBB i) * y) j : Nat) : Int)) - ((((jDg z i) * (jDg y (j - i)) : Nat) : Int)))))), (7, .int (nI (j)))]) dX9_divideByOdd_65 (by decide) rfl ?_
      refine aX_aload_n dX9_divideByOdd_67 rfl ?_
      refine aX_get (v := .ref (o + 1)) dX9_divideByOdd_68 lfX9_9 (ho.1 _ _) (ho.2.2.1 _ _) ?_
      refine aX_iload dX9_divideByOdd_71 rfl ?_
      refine aX_lload dX9_divideByOdd_73 rfl ?_
      refine aX_ldc2 (v := lN 1073741823) dX9_divideByOdd_75 lkX9_31 ?_
      refine yAnd 30 dX9_divideByOdd_78 rfl (by decide) ?_
      refine kL2i dX9_divideByOdd_79 ?_
      refine nIast dX9_divideByOdd_80 (ho.2.1 _ _) (by first | omega | exact Nat.lt_of_le_of_lt (Nat.mod_le _ _) (by omega)) (by decide) ?_
      refine aX_lload dX9_divideByOdd_81 rfl ?_
      refine aX_bipush (v := nI 30) dX9_divideByOdd_83 (by decide) ?_
      refine yShr dX9_divideByOdd_85 (by first | omega | exact Nat.lt_of_le_of_lt (Nat.mod_le _ _) (by omega)) (by first | omega | exact Nat.lt_of_le_of_lt (Nat.mod_le _ _) (by omega)) (by first | omega | exact Nat.lt_of_le_of_lt (Nat.mod_le _ _) (by omega)) ?_
      refine aX_lstore (lv' := [(0, .ref (o)), (1, .ref (u)), (2, .int (iZ (v))), (3, .int (nI (i))), (4, .int (nI (jDg z i))), (5, .long (lZ ((c + ((((jDg (x - (z % jBB i) * y) j : Nat) : Int)) - ((((jDg z i) * (jDg y (j - i)) : Nat) : Int)))) / 2 ^ 30))), (7, .int (nI (j)))]) dX9_divideByOdd_86 (by decide) rfl ?_
      refine nInc (lv' := [(0, .ref (o)), (1, .ref (u)), (2, .int (iZ (v))), (3, .int (nI (i))), (4, .int (nI (jDg z i))), (5, .long (lZ ((c + ((((jDg (x - (z % jBB i) * y) j : Nat) : Int)) - ((((jDg z i) * (jDg y (j - i)) : Nat) : Int)))) / 2 ^ 30))), (7, .int (nI (j + 1)))]) dX9_divideByOdd_88 rfl rfl (by decide) rfl ?_
      refine aX_goto (tgt := 32) dX9_divideByOdd_91 (by decide) ?_
      exact ih (12 - (j + 1)) (by omega) (j + 1) (by omega) rfl _ _ (by omega) hcr.1.symm (fun a ha => by rw [aU_n (by omega)]; exact hlo a ha) (fun a h1 h2 => by
        by_cases e : a = j
        · subst e; rw [aU_s, hcr.2]
        · rw [aU_n (by omega)]; exact hmi a h1 (by omega)) (fun a h1 h2 => by rw [aU_n (by omega)]; exact hup a (by omega) h2) (fun a b g => by rw [aU_n (by omega)]; exact hk a b g)
set_option maxHeartbeats 1000000 in
theorem l_divide {I : Nat → Nat → Int32} {L : Nat → Nat → Int64} {R : Nat → Nat → Option Nat} {o : Nat} (ho : wSh R o) {x : Int} (hx : wD I o x) {u : Nat} (hu : wSh R u) (hne : o ≠ u) {y z : Int} (hy : wD I u y) (hyo : jDg y 0 % 2 = 1) (hxz : x = y * z) {v : Int} (hv : (2 : Int) ^ 30 ∣ ((jDg y 0 : Nat) : Int) * v - 1) : ∀ (k9 i : Nat), i ≤ 12 → 12 - i = k9 → ∀ (I1 : Nat → Nat → Int32), (∀ a, a < i → I1 (o + 1) a = nI (jDg z a)) → (∀ a, i ≤ a → a < 12 → I1 (o + 1) a = nI (jDg (x - (z % jBB i) * y) a)) → rK (o + 1) I I1 → aX mX9_divideByOdd aE0 (sh0, I1, L, R) 7 [(0, .ref (o)), (1, .ref (u)), (2, .int (iZ (v))), (3, .int (nI (i)))] [] 0 0 (fun ans h' => ans = none ∧ ∃ I', h' = (sh0, I', L, R) ∧ wD I' o z ∧ rK (o + 1) I I') := by
  intro k9
  induction k9 using Nat.strongRecOn with
  | _ k9 ih =>
    intro i hi hk9 I1  hlo hup hk
    have e1 := ho.2.2.2.1
    have e2 := hu.2.2.2.1
    have hl1 := jDg_lt (x - (z % jBB i) * y) i
    have hl3 := jDg_lt z i
    refine aX_iload_n dX9_divideByOdd_7 rfl ?_
    refine aX_bipush (v := nI 12) dX9_divideByOdd_8 (by decide) ?_
    refine nGe (tgt := 108) dX9_divideByOdd_10 (by decide) (by first | omega | exact Nat.lt_of_le_of_lt (Nat.mod_le _ _) (by omega)) (by first | omega | exact Nat.lt_of_le_of_lt (Nat.mod_le _ _) (by omega)) (fun c1 => ?_) (fun c1 => ?_)
    · exact rV dX9_divideByOdd_108 rfl (⟨rfl, I1, rfl, fun a ha => hlo a (by omega), hk⟩)
    · refine aX_aload_n dX9_divideByOdd_13 rfl ?_
      refine aX_get (v := .ref (o + 1)) dX9_divideByOdd_14 lfX9_9 (ho.1 _ _) (ho.2.2.1 _ _) ?_
      refine aX_iload_n dX9_divideByOdd_17 rfl ?_
      refine nIald (v := nI (jDg (x - (z % jBB i) * y) i)) dX9_divideByOdd_18 (ho.2.1 _ _) (by first | omega | exact Nat.lt_of_le_of_lt (Nat.mod_le _ _) (by omega)) (by decide) (hup i (Nat.le_refl _) (by omega)) ?_
      refine aX_iload_n dX9_divideByOdd_19 rfl ?_
      refine zMul (a := ((jDg (x - (z % jBB i) * y) i : Nat) : Int)) (b := v) dX9_divideByOdd_20 (nZ _) (rfl) ?_
      refine aX_ldc (v := nI 1073741823) dX9_divideByOdd_21 lkX9_45 ?_
      refine zAnd 30 dX9_divideByOdd_23 rfl (by decide) ?_
      rw [dv_q hxz hv i]
      refine aX_istore (lv' := [(0, .ref (o)), (1, .ref (u)), (2, .int (iZ (v))), (3, .int (nI (i))), (4, .int (nI (jDg z i)))]) dX9_divideByOdd_24 (by decide) rfl ?_
      refine aX_lconst (v := lN 0) dX9_divideByOdd_26 rfl ?_
      refine aX_lstore (lv' := [(0, .ref (o)), (1, .ref (u)), (2, .int (iZ (v))), (3, .int (nI (i))), (4, .int (nI (jDg z i))), (5, .long (lN (0)))]) dX9_divideByOdd_27 (by decide) rfl ?_
      refine aX_iload_n dX9_divideByOdd_29 rfl ?_
      refine aX_istore (lv' := [(0, .ref (o)), (1, .ref (u)), (2, .int (iZ (v))), (3, .int (nI (i))), (4, .int (nI (jDg z i))), (5, .long (lN (0))), (7, .int (nI (i)))]) dX9_divideByOdd_30 (by decide) rfl ?_
      rw [kZ 0]
      show aX _ _ _ _ [(0, .ref o), (1, .ref u), (2, .int (iZ v)), (3, .int (nI i)), (4, .int (nI (jDg z i))), (5, .long (lZ 0)), (7, .int (nI i))] _ _ _ _
      refine l_divIn ho hx hu hne hy hyo hxz (v := v) (i := i) (by omega) (fun c I2 g1 g2 g3 => ?_) _ i (by omega) rfl 0 I1 (Nat.le_refl _) (by
        rw [dv_V hxz, Int.mul_emod_right, Int.mul_emod_left, Int.mul_zero, Int.add_zero, Int.zero_ediv]) hlo (fun a h1 h2 => by omega) hup hk
      refine aX_aload_n dX9_divideByOdd_94 rfl ?_
      refine aX_get (v := .ref (o + 1)) dX9_divideByOdd_95 lfX9_9 (ho.1 _ _) (ho.2.2.1 _ _) ?_
      refine aX_iload_n dX9_divideByOdd_98 rfl ?_
      refine aX_iload dX9_divideByOdd_99 rfl ?_
      refine nIast dX9_divideByOdd_101 (ho.2.1 _ _) (by first | omega | exact Nat.lt_of_le_of_lt (Nat.mod_le _ _) (by omega)) (by decide) ?_
      refine nInc (lv' := [(0, .ref (o)), (1, .ref (u)), (2, .int (iZ (v))), (3, .int (nI (i + 1))), (4, .int (nI (jDg z i))), (5, .long (lZ (c))), (7, .int (nI (12)))]) dX9_divideByOdd_102 rfl rfl (by decide) rfl ?_
      refine aX_goto (tgt := 7) dX9_divideByOdd_105 (by decide) ?_
      refine aX_lv (lv' := [(0, .ref (o)), (1, .ref (u)), (2, .int (iZ (v))), (3, .int (nI (i + 1)))]) [0, 1, 2, 3] rfl ?_
      exact ih (12 - (i + 1)) (by omega) (i + 1) (by omega) rfl _ (fun a ha => by
        by_cases e : a = i
        · subst e; rw [aU_s]
        · rw [aU_n (by omega)]; exact g1 a (by omega)) (fun a h1 h2 => by rw [aU_n (by omega)]; exact g2 a (by omega) h2) (fun a b g => by rw [aU_n (by omega)]; exact g3 a b g)
set_option maxHeartbeats 1000000 in
theorem c_divideByOdd {I : Nat → Nat → Int32} {L : Nat → Nat → Int64} {R : Nat → Nat → Option Nat} {o : Nat} (ho : wSh R o) {x : Int} (hx : wD I o x) {u : Nat} (hu : wSh R u) (hne : o ≠ u) {y z : Int} (hy : wD I u y) (hyo : jDg y 0 % 2 = 1) (hxz : x = y * z) : aM mX9_divideByOdd [.ref o, .ref u] (sh0, I, L, R) (fun ans h' => ans = none ∧ ∃ I', h' = (sh0, I', L, R) ∧ wD I' o z ∧ rK (o + 1) I I') := by
  refine aM_of plX9_divideByOdd (Nat.le_of_ble_eq_true rfl) ?_
  refine aX_aload_n dX9_divideByOdd_0 rfl ?_
  refine cV (As := []) (st := []) dX9_divideByOdd_1 kX9_divideByOdd_57 (hu.1 _ _) aEok0 rfl rfl (Nat.le_of_ble_eq_true rfl) (c_inverseOfLowest hu hy hyo) (fun r h' hq => ?_)
  obtain ⟨rfl, v, hv, rfl⟩ := hq
  refine ⟨rfl, ?_⟩
  refine aX_istore_n (lv' := [(0, .ref (o)), (1, .ref (u)), (2, .int (iZ (v)))]) dX9_divideByOdd_4 (by decide) rfl ?_
  refine aX_iconst (v := nI 0) dX9_divideByOdd_5 (by decide) ?_
  refine aX_istore_n (lv' := [(0, .ref (o)), (1, .ref (u)), (2, .int (iZ (v))), (3, .int (nI (0)))]) dX9_divideByOdd_6 (by decide) rfl ?_
  exact l_divide ho hx hu hne hy hyo hxz hv _ 0 (by omega) rfl I (fun a ha => by omega) (fun a _ ha => by rw [jBB_0, Int.emod_one, Int.zero_mul, Int.sub_zero]; exact hx a ha) (fun _ _ _ => rfl)
