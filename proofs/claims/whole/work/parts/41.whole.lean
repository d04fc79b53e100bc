/-! WHOLE: bits, digits, division -/
def jBc (v : Int32) : Int32 := (((((((v - (((v.toUInt32 >>> ((nI (1)).toUInt32 &&& Int32.toUInt32 31)).toInt32) &&& (nI (1431655765)))) &&& (nI (858993459))) + ((((v - (((v.toUInt32 >>> ((nI (1)).toUInt32 &&& Int32.toUInt32 31)).toInt32) &&& (nI (1431655765)))).toUInt32 >>> ((nI (2)).toUInt32 &&& Int32.toUInt32 31)).toInt32) &&& (nI (858993459)))) + (((((v - (((v.toUInt32 >>> ((nI (1)).toUInt32 &&& Int32.toUInt32 31)).toInt32) &&& (nI (1431655765)))) &&& (nI (858993459))) + ((((v - (((v.toUInt32 >>> ((nI (1)).toUInt32 &&& Int32.toUInt32 31)).toInt32) &&& (nI (1431655765)))).toUInt32 >>> ((nI (2)).toUInt32 &&& Int32.toUInt32 31)).toInt32) &&& (nI (858993459)))).toUInt32 >>> ((nI (4)).toUInt32 &&& Int32.toUInt32 31)).toInt32)) &&& (nI (252645135))) + (((((((v - (((v.toUInt32 >>> ((nI (1)).toUInt32 &&& Int32.toUInt32 31)).toInt32) &&& (nI (1431655765)))) &&& (nI (858993459))) + ((((v - (((v.toUInt32 >>> ((nI (1)).toUInt32 &&& Int32.toUInt32 31)).toInt32) &&& (nI (1431655765)))).toUInt32 >>> ((nI (2)).toUInt32 &&& Int32.toUInt32 31)).toInt32) &&& (nI (858993459)))) + (((((v - (((v.toUInt32 >>> ((nI (1)).toUInt32 &&& Int32.toUInt32 31)).toInt32) &&& (nI (1431655765)))) &&& (nI (858993459))) + ((((v - (((v.toUInt32 >>> ((nI (1)).toUInt32 &&& Int32.toUInt32 31)).toInt32) &&& (nI (1431655765)))).toUInt32 >>> ((nI (2)).toUInt32 &&& Int32.toUInt32 31)).toInt32) &&& (nI (858993459)))).toUInt32 >>> ((nI (4)).toUInt32 &&& Int32.toUInt32 31)).toInt32)) &&& (nI (252645135))).toUInt32 >>> ((nI (8)).toUInt32 &&& Int32.toUInt32 31)).toInt32)) + ((((((((v - (((v.toUInt32 >>> ((nI (1)).toUInt32 &&& Int32.toUInt32 31)).toInt32) &&& (nI (1431655765)))) &&& (nI (858993459))) + ((((v - (((v.toUInt32 >>> ((nI (1)).toUInt32 &&& Int32.toUInt32 31)).toInt32) &&& (nI (1431655765)))).toUInt32 >>> ((nI (2)).toUInt32 &&& Int32.toUInt32 31)).toInt32) &&& (nI (858993459)))) + (((((v - (((v.toUInt32 >>> ((nI (1)).toUInt32 &&& Int32.toUInt32 31)).toInt32) &&& (nI (1431655765)))) &&& (nI (858993459))) + ((((v - (((v.toUInt32 >>> ((nI (1)).toUInt32 &&& Int32.toUInt32 31)).toInt32) &&& (nI (1431655765)))).toUInt32 >>> ((nI (2)).toUInt32 &&& Int32.toUInt32 31)).toInt32) &&& (nI (858993459)))).toUInt32 >>> ((nI (4)).toUInt32 &&& Int32.toUInt32 31)).toInt32)) &&& (nI (252645135))) + (((((((v - (((v.toUInt32 >>> ((nI (1)).toUInt32 &&& Int32.toUInt32 31)).toInt32) &&& (nI (1431655765)))) &&& (nI (858993459))) + ((((v - (((v.toUInt32 >>> ((nI (1)).toUInt32 &&& Int32.toUInt32 31)).toInt32) &&& (nI (1431655765)))).toUInt32 >>> ((nI (2)).toUInt32 &&& Int32.toUInt32 31)).toInt32) &&& (nI (858993459)))) + (((((v - (((v.toUInt32 >>> ((nI (1)).toUInt32 &&& Int32.toUInt32 31)).toInt32) &&& (nI (1431655765)))) &&& (nI (858993459))) + ((((v - (((v.toUInt32 >>> ((nI (1)).toUInt32 &&& Int32.toUInt32 31)).toInt32) &&& (nI (1431655765)))).toUInt32 >>> ((nI (2)).toUInt32 &&& Int32.toUInt32 31)).toInt32) &&& (nI (858993459)))).toUInt32 >>> ((nI (4)).toUInt32 &&& Int32.toUInt32 31)).toInt32)) &&& (nI (252645135))).toUInt32 >>> ((nI (8)).toUInt32 &&& Int32.toUInt32 31)).toInt32)).toUInt32 >>> ((nI (16)).toUInt32 &&& Int32.toUInt32 31)).toInt32)) &&& (nI (63))
set_option maxRecDepth 10000 in
theorem bc_all : ∀ k, k < 31 → jBc (nI (2 ^ k) - nI 1) = nI k := by decide
set_option maxHeartbeats 1000000 in
theorem c_bitCount {h : aH} {k : Nat} (hk : k < 31) : aMp mJ6_bitCount_0f7a4 [.int (nI (2 ^ k) - nI 1)] h (.int (nI k)) := by
  obtain ⟨v, hv⟩ : ∃ v, v = nI (2 ^ k) - nI 1 := ⟨_, rfl⟩
  have hb : jBc v = nI k := by rw [hv]; exact bc_all k hk
  rw [← hv]
  refine aM_of plJ6_bitCount_0f7a4 (Nat.le_of_ble_eq_true rfl) ?_
  refine aX_iload_n dJ6_bitCount_0f7a4_0 rfl ?_
  refine aX_iload_n dJ6_bitCount_0f7a4_1 rfl ?_
  refine aX_iconst (v := nI 1) dJ6_bitCount_0f7a4_2 (by decide) ?_
  refine aX_iushr dJ6_bitCount_0f7a4_3 ?_
  refine aX_ldcw (v := nI 1431655765) dJ6_bitCount_0f7a4_4 lkJ6_265 ?_
  refine aX_iand dJ6_bitCount_0f7a4_7 ?_
  refine aX_isub dJ6_bitCount_0f7a4_8 ?_
  refine aX_istore_n (lv' := [(0, .int (v - (((v.toUInt32 >>> ((nI (1)).toUInt32 &&& Int32.toUInt32 31)).toInt32) &&& (nI (1431655765)))))]) dJ6_bitCount_0f7a4_9 (by decide) rfl ?_
  refine aX_iload_n dJ6_bitCount_0f7a4_10 rfl ?_
  refine aX_ldcw (v := nI 858993459) dJ6_bitCount_0f7a4_11 lkJ6_266 ?_
  refine aX_iand dJ6_bitCount_0f7a4_14 ?_
  refine aX_iload_n dJ6_bitCount_0f7a4_15 rfl ?_
  refine aX_iconst (v := nI 2) dJ6_bitCount_0f7a4_16 (by decide) ?_
  refine aX_iushr dJ6_bitCount_0f7a4_17 ?_
  refine aX_ldcw (v := nI 858993459) dJ6_bitCount_0f7a4_18 lkJ6_266 ?_
  refine aX_iand dJ6_bitCount_0f7a4_21 ?_
  refine aX_iadd dJ6_bitCount_0f7a4_22 ?_
  refine aX_istore_n (lv' := [(0, .int (((v - (((v.toUInt32 >>> ((nI (1)).toUInt32 &&& Int32.toUInt32 31)).toInt32) &&& (nI (1431655765)))) &&& (nI (858993459))) + ((((v - (((v.toUInt32 >>> ((nI (1)).toUInt32 &&& Int32.toUInt32 31)).toInt32) &&& (nI (1431655765)))).toUInt32 >>> ((nI (2)).toUInt32 &&& Int32.toUInt32 31)).toInt32) &&& (nI (858993459)))))]) dJ6_bitCount_0f7a4_23 (by decide) rfl ?_
  refine aX_iload_n dJ6_bitCount_0f7a4_24 rfl ?_
  refine aX_iload_n dJ6_bitCount_0f7a4_25 rfl ?_
  refine aX_iconst (v := nI 4) dJ6_bitCount_0f7a4_26 (by decide) ?_
  refine aX_iushr dJ6_bitCount_0f7a4_27 ?_
  refine aX_iadd dJ6_bitCount_0f7a4_28 ?_
  refine aX_ldcw (v := nI 252645135) dJ6_bitCount_0f7a4_29 lkJ6_267 ?_
  refine aX_iand dJ6_bitCount_0f7a4_32 ?_
  refine aX_istore_n (lv' := [(0, .int (((((v - (((v.toUInt32 >>> ((nI (1)).toUInt32 &&& Int32.toUInt32 31)).toInt32) &&& (nI (1431655765)))) &&& (nI (858993459))) + ((((v - (((v.toUInt32 >>> ((nI (1)).toUInt32 &&& Int32.toUInt32 31)).toInt32) &&& (nI (1431655765)))).toUInt32 >>> ((nI (2)).toUInt32 &&& Int32.toUInt32 31)).toInt32) &&& (nI (858993459)))) + (((((v - (((v.toUInt32 >>> ((nI (1)).toUInt32 &&& Int32.toUInt32 31)).toInt32) &&& (nI (1431655765)))) &&& (nI (858993459))) + ((((v - (((v.toUInt32 >>> ((nI (1)).toUInt32 &&& Int32.toUInt32 31)).toInt32) &&& (nI (1431655765)))).toUInt32 >>> ((nI (2)).toUInt32 &&& Int32.toUInt32 31)).toInt32) &&& (nI (858993459)))).toUInt32 >>> ((nI (4)).toUInt32 &&& Int32.toUInt32 31)).toInt32)) &&& (nI (252645135))))]) dJ6_bitCount_0f7a4_33 (by decide) rfl ?_
  refine aX_iload_n dJ6_bitCount_0f7a4_34 rfl ?_
  refine aX_iload_n dJ6_bitCount_0f7a4_35 rfl ?_
  refine aX_bipush (v := nI 8) dJ6_bitCount_0f7a4_36 (by decide) ?_
  refine aX_iushr dJ6_bitCount_0f7a4_38 ?_
  refine aX_iadd dJ6_bitCount_0f7a4_39 ?_
  refine aX_istore_n (lv' := [(0, .int ((((((v - (((v.toUInt32 >>> ((nI (1)).toUInt32 &&& Int32.toUInt32 31)).toInt32) &&& (nI (1431655765)))) &&& (nI (858993459))) + ((((v - (((v.toUInt32 >>> ((nI (1)).toUInt32 &&& Int32.toUInt32 31)).toInt32) &&& (nI (1431655765)))).toUInt32 >>> ((nI (2)).toUInt32 &&& Int32.toUInt32 31)).toInt32) &&& (nI (858993459)))) + (((((v - (((v.toUInt32 >>> ((nI (1)).toUInt32 &&& Int32.toUInt32 31)).toInt32) &&& (nI (1431655765)))) &&& (nI (858993459))) + ((((v - (((v.toUInt32 >>> ((nI (1)).toUInt32 &&& Int32.toUInt32 31)).toInt32) &&& (nI (1431655765)))).toUInt32 >>> ((nI (2)).toUInt32 &&& Int32.toUInt32 31)).toInt32) &&& (nI (858993459)))).toUInt32 >>> ((nI (4)).toUInt32 &&& Int32.toUInt32 31)).toInt32)) &&& (nI (252645135))) + (((((((v - (((v.toUInt32 >>> ((nI (1)).toUInt32 &&& Int32.toUInt32 31)).toInt32) &&& (nI (1431655765)))) &&& (nI (858993459))) + ((((v - (((v.toUInt32 >>> ((nI (1)).toUInt32 &&& Int32.toUInt32 31)).toInt32) &&& (nI (1431655765)))).toUInt32 >>> ((nI (2)).toUInt32 &&& Int32.toUInt32 31)).toInt32) &&& (nI (858993459)))) + (((((v - (((v.toUInt32 >>> ((nI (1)).toUInt32 &&& Int32.toUInt32 31)).toInt32) &&& (nI (1431655765)))) &&& (nI (858993459))) + ((((v - (((v.toUInt32 >>> ((nI (1)).toUInt32 &&& Int32.toUInt32 31)).toInt32) &&& (nI (1431655765)))).toUInt32 >>> ((nI (2)).toUInt32 &&& Int32.toUInt32 31)).toInt32) &&& (nI (858993459)))).toUInt32 >>> ((nI (4)).toUInt32 &&& Int32.toUInt32 31)).toInt32)) &&& (nI (252645135))).toUInt32 >>> ((nI (8)).toUInt32 &&& Int32.toUInt32 31)).toInt32)))]) dJ6_bitCount_0f7a4_40 (by decide) rfl ?_
  refine aX_iload_n dJ6_bitCount_0f7a4_41 rfl ?_
  refine aX_iload_n dJ6_bitCount_0f7a4_42 rfl ?_
  refine aX_bipush (v := nI 16) dJ6_bitCount_0f7a4_43 (by decide) ?_
  refine aX_iushr dJ6_bitCount_0f7a4_45 ?_
  refine aX_iadd dJ6_bitCount_0f7a4_46 ?_
  refine aX_istore_n (lv' := [(0, .int (((((((v - (((v.toUInt32 >>> ((nI (1)).toUInt32 &&& Int32.toUInt32 31)).toInt32) &&& (nI (1431655765)))) &&& (nI (858993459))) + ((((v - (((v.toUInt32 >>> ((nI (1)).toUInt32 &&& Int32.toUInt32 31)).toInt32) &&& (nI (1431655765)))).toUInt32 >>> ((nI (2)).toUInt32 &&& Int32.toUInt32 31)).toInt32) &&& (nI (858993459)))) + (((((v - (((v.toUInt32 >>> ((nI (1)).toUInt32 &&& Int32.toUInt32 31)).toInt32) &&& (nI (1431655765)))) &&& (nI (858993459))) + ((((v - (((v.toUInt32 >>> ((nI (1)).toUInt32 &&& Int32.toUInt32 31)).toInt32) &&& (nI (1431655765)))).toUInt32 >>> ((nI (2)).toUInt32 &&& Int32.toUInt32 31)).toInt32) &&& (nI (858993459)))).toUInt32 >>> ((nI (4)).toUInt32 &&& Int32.toUInt32 31)).toInt32)) &&& (nI (252645135))) + (((((((v - (((v.toUInt32 >>> ((nI (1)).toUInt32 &&& Int32.toUInt32 31)).toInt32) &&& (nI (1431655765)))) &&& (nI (858993459))) + ((((v - (((v.toUInt32 >>> ((nI (1)).toUInt32 &&& Int32.toUInt32 31)).toInt32) &&& (nI (1431655765)))).toUInt32 >>> ((nI (2)).toUInt32 &&& Int32.toUInt32 31)).toInt32) &&& (nI (858993459)))) + (((((v - (((v.toUInt32 >>> ((nI (1)).toUInt32 &&& Int32.toUInt32 31)).toInt32) &&& (nI (1431655765)))) &&& (nI (858993459))) + ((((v - (((v.toUInt32 >>> ((nI (1)).toUInt32 &&& Int32.toUInt32 31)).toInt32) &&& (nI (1431655765)))).toUInt32 >>> ((nI (2)).toUInt32 &&& Int32.toUInt32 31)).toInt32) &&& (nI (858993459)))).toUInt32 >>> ((nI (4)).toUInt32 &&& Int32.toUInt32 31)).toInt32)) &&& (nI (252645135))).toUInt32 >>> ((nI (8)).toUInt32 &&& Int32.toUInt32 31)).toInt32)) + ((((((((v - (((v.toUInt32 >>> ((nI (1)).toUInt32 &&& Int32.toUInt32 31)).toInt32) &&& (nI (1431655765)))) &&& (nI (858993459))) + ((((v - (((v.toUInt32 >>> ((nI (1)).toUInt32 &&& Int32.toUInt32 31)).toInt32) &&& (nI (1431655765)))).toUInt32 >>> ((nI (2)).toUInt32 &&& Int32.toUInt32 31)).toInt32) &&& (nI (858993459)))) + (((((v - (((v.toUInt32 >>> ((nI (1)).toUInt32 &&& Int32.toUInt32 31)).toInt32) &&& (nI (1431655765)))) &&& (nI (858993459))) + ((((v - (((v.toUInt32 >>> ((nI (1)).toUInt32 &&& Int32.toUInt32 31)).toInt32) &&& (nI (1431655765)))).toUInt32 >>> ((nI (2)).toUInt32 &&& Int32.toUInt32 31)).toInt32) &&& (nI (858993459)))).toUInt32 >>> ((nI (4)).toUInt32 &&& Int32.toUInt32 31)).toInt32)) &&& (nI (252645135))) + (((((((v - (((v.toUInt32 >>> ((nI (1)).toUInt32 &&& Int32.toUInt32 31)).toInt32) &&& (nI (1431655765)))) &&& (nI (858993459))) + ((((v - (((v.toUInt32 >>> ((nI (1)).toUInt32 &&& Int32.toUInt32 31)).toInt32) &&& (nI (1431655765)))).toUInt32 >>> ((nI (2)).toUInt32 &&& Int32.toUInt32 31)).toInt32) &&& (nI (858993459)))) + (((((v - (((v.toUInt32 >>> ((nI (1)).toUInt32 &&& Int32.toUInt32 31)).toInt32) &&& (nI (1431655765)))) &&& (nI (858993459))) + ((((v - (((v.toUInt32 >>> ((nI (1)).toUInt32 &&& Int32.toUInt32 31)).toInt32) &&& (nI (1431655765)))).toUInt32 >>> ((nI (2)).toUInt32 &&& Int32.toUInt32 31)).toInt32) &&& (nI (858993459)))).toUInt32 >>> ((nI (4)).toUInt32 &&& Int32.toUInt32 31)).toInt32)) &&& (nI (252645135))).toUInt32 >>> ((nI (8)).toUInt32 &&& Int32.toUInt32 31)).toInt32)).toUInt32 >>> ((nI (16)).toUInt32 &&& Int32.toUInt32 31)).toInt32)))]) dJ6_bitCount_0f7a4_47 (by decide) rfl ?_
  refine aX_iload_n dJ6_bitCount_0f7a4_48 rfl ?_
  refine aX_bipush (v := nI 63) dJ6_bitCount_0f7a4_49 (by decide) ?_
  refine aX_iand dJ6_bitCount_0f7a4_51 ?_
  exact rI dJ6_bitCount_0f7a4_52 rfl (⟨rfl, by rw [← hb]; rfl⟩)
theorem and_compl {m w : Nat} (h : m < 2 ^ w) : m &&& (2 ^ w - (m + 1)) = 0 := by
  apply Nat.eq_of_testBit_eq
  intro i
  rw [Nat.testBit_and, Nat.testBit_two_pow_sub_succ h, Nat.zero_testBit]
  cases m.testBit i <;> simp
theorem lowbitN {m k : Nat} (h : 2 ^ k * (2 * m + 1) < 2 ^ 32) : (2 ^ k * (2 * m + 1)) &&& (2 ^ 32 - 2 ^ k * (2 * m + 1)) = 2 ^ k := by
  have hk : k < 32 := by
    rcases Nat.lt_or_ge k 32 with c | c
    · exact c
    · have := Nat.pow_le_pow_right (show 0 < 2 by decide) c
      have h2 : 2 ^ k * 1 ≤ 2 ^ k * (2 * m + 1) := Nat.mul_le_mul_left _ (by omega)
      omega
  have e32 : 2 ^ 32 = 2 ^ k * (2 * 2 ^ (31 - k)) := by
    rw [show 2 * 2 ^ (31 - k) = 2 ^ (32 - k) by rw [show 32 - k = (31 - k) + 1 by omega, Nat.pow_succ, Nat.mul_comm], ← Nat.pow_add]
    congr 1
    omega
  have hm : 2 * m + 1 < 2 * 2 ^ (31 - k) := by
    rw [e32] at h
    exact Nat.lt_of_mul_lt_mul_left h
  have hm2 : m < 2 ^ (31 - k) := by omega
  have e2 : 2 ^ 32 - 2 ^ k * (2 * m + 1) = 2 ^ k * (2 * (2 ^ (31 - k) - (m + 1)) + 1) := by
    rw [e32, ← Nat.mul_sub]
    congr 1
    omega
  rw [e2, Nat.mul_comm (2 ^ k), Nat.mul_comm (2 ^ k), ← Nat.shiftLeft_eq, ← Nat.shiftLeft_eq, ← Nat.shiftLeft_and_distrib]
  have e3 : (2 * m + 1) &&& (2 * (2 ^ (31 - k) - (m + 1)) + 1) = 1 := by
    apply Nat.eq_of_testBit_eq
    intro i
    cases i with
    | zero => simp [Nat.testBit_zero]
    | succ i =>
      have := congrArg (fun z => Nat.testBit z i) (and_compl hm2)
      simp only [Nat.testBit_and, Nat.zero_testBit] at this
      rw [Nat.testBit_and, Nat.testBit_succ, Nat.testBit_succ, show (2 * m + 1) / 2 = m by omega, show (2 * (2 ^ (31 - k) - (m + 1)) + 1) / 2 = 2 ^ (31 - k) - (m + 1) by omega, this, Nat.testBit_succ, show 1 / 2 = 0 from rfl, Nat.zero_testBit]
  rw [e3, Nat.shiftLeft_eq, Nat.one_mul]
theorem nI_tn {n : Nat} (h : n < 2 ^ 32) : (nI n).toBitVec.toNat = n := pk_tn h
theorem lowbit {d k m : Nat} (hd : d < 1073741824) (e : d = 2 ^ k * (2 * m + 1)) : nI d &&& -(nI d) = nI (2 ^ k) := by
  have hk : 2 ^ k ≤ d := by rw [e]; exact Nat.le_mul_of_pos_right _ (by omega)
  have hd0 : 0 < d := by have := Nat.two_pow_pos k; omega
  apply Int32.toBitVec.inj
  apply BitVec.eq_of_toNat_eq
  rw [Int32.toBitVec_and, BitVec.toNat_and, Int32.toBitVec_neg, BitVec.toNat_neg, nI_tn (by omega), nI_tn (by omega), Nat.mod_eq_of_lt (by omega), e]
  exact lowbitN (by rw [← e]; omega)
theorem tz_ex : ∀ d : Nat, 0 < d → ∃ k m, d = 2 ^ k * (2 * m + 1) := by
  intro d
  induction d using Nat.strongRecOn with
  | _ d ih =>
    intro h
    rcases Nat.mod_two_eq_zero_or_one d with z | z
    · obtain ⟨k, m, e⟩ := ih (d / 2) (by omega) (by omega)
      exact ⟨k + 1, m, by rw [Nat.pow_succ, Nat.mul_comm (2 ^ k), Nat.mul_assoc, ← e]; omega⟩
    · exact ⟨0, d / 2, by omega⟩
/-- x has just t twos -/
def jTz (x : Int) (t : Nat) : Prop := ∃ w : Int, x = 2 ^ t * (2 * w + 1)
theorem jBB_2 (i : Nat) : jBB i = 2 ^ (i * 30) := by unfold jBB; rw [Nat.mul_comm, Int.pow_mul]
theorem tz_at {x : Int} {i k m : Nat} (hx : x % jBB i = 0) (hd : jDg x i = 2 ^ k * (2 * m + 1)) : jTz x (i * 30 + k) := by
  have hl := jDg_lt x i
  have hk : k < 30 := by
    rcases Nat.lt_or_ge k 30 with c | c
    · exact c
    · have h1 := Nat.pow_le_pow_right (show 0 < 2 by decide) c
      have h2 : 2 ^ k * 1 ≤ 2 ^ k * (2 * m + 1) := Nat.mul_le_mul_left _ (by omega)
      omega
  have h1 := Int.emod_add_mul_ediv x (jBB i)
  have h2 := jDg_high x i
  have e30 : (2 : Int) ^ 30 = 2 ^ k * (2 * 2 ^ (29 - k)) := by
    rw [show (2 : Int) * 2 ^ (29 - k) = 2 ^ (30 - k) by rw [show 30 - k = (29 - k) + 1 by omega, Int.pow_succ, Int.mul_comm], ← Int.pow_add]
    congr 1
    omega
  refine ⟨x / jBB (i + 1) * 2 ^ (29 - k) + m, ?_⟩
  rw [Int.pow_add, ← jBB_2]
  have hd' : ((jDg x i : Nat) : Int) = 2 ^ k * (2 * (m : Int) + 1) := by rw [hd]; push_cast; rfl
  rw [hd', e30] at h2
  rw [hx, h2] at h1
  grind
set_option maxHeartbeats 1000000 in
theorem l_twos {I : Nat → Nat → Int32} {L : Nat → Nat → Int64} {R : Nat → Nat → Option Nat} {o : Nat} (ho : wSh R o) {x : Int} (hx : wD I o x) (hx0 : 0 < x) (hx1 : x < jBB 12) : ∀ (k9 i : Nat), i ≤ 12 → 12 - i = k9 → x % jBB i = 0 → aX mX9_twos aE0 (sh0, I, L, R) 2 [(0, .ref (o)), (1, .int (nI (i)))] [] 0 0 (fun ans h' => h' = (sh0, I, L, R) ∧ ∃ t, jTz x t ∧ ans = some (.int (nI t))) := by
  intro k9
  induction k9 using Nat.strongRecOn with
  | _ k9 ih =>
    intro i hi hk9  hz
    have hl1 := jDg_lt x i
    refine aX_iload_n dX9_twos_2 rfl ?_
    refine aX_bipush (v := nI 12) dX9_twos_3 (by decide) ?_
    refine nGe (tgt := 48) dX9_twos_5 (by decide) (by first | omega | exact Nat.lt_of_le_of_lt (Nat.mod_le _ _) (by omega)) (by first | omega | exact Nat.lt_of_le_of_lt (Nat.mod_le _ _) (by omega)) (fun c1 => ?_) (fun c1 => ?_)
    · refine aX_iconst (v := nI 0) dX9_twos_48 (by decide) ?_
      exact rI dX9_twos_49 rfl (⟨rfl, absurd (show x = 0 from by rw [show i = 12 by omega, Int.emod_eq_of_lt (by omega) hx1] at hz; exact hz) (by omega)⟩)
    · refine aX_aload_n dX9_twos_8 rfl ?_
      refine aX_get (v := .ref (o + 1)) dX9_twos_9 lfX9_9 (ho.1 _ _) (ho.2.2.1 _ _) ?_
      refine aX_iload_n dX9_twos_12 rfl ?_
      refine nIald (v := nI (jDg x i)) dX9_twos_13 (ho.2.1 _ _) (by first | omega | exact Nat.lt_of_le_of_lt (Nat.mod_le _ _) (by omega)) (by decide) (hx i (by omega)) ?_
      refine nIf_eq (tgt := 42) dX9_twos_14 (by decide) (by first | omega | exact Nat.lt_of_le_of_lt (Nat.mod_le _ _) (by omega)) (fun c2 => ?_) (fun c2 => ?_)
      · refine nInc (lv' := [(0, .ref (o)), (1, .int (nI (i + 1)))]) dX9_twos_42 rfl rfl (by decide) rfl ?_
        refine aX_goto (tgt := 2) dX9_twos_45 (by decide) ?_
        exact ih (12 - (i + 1)) (by omega) (i + 1) (by omega) rfl (by rw [jDg_low, hz, show jDg x i = 0 by assumption]; simp)
      · obtain ⟨k, m, hd⟩ := tz_ex (jDg x i) c2
        have hk30 : k < 30 := by
          rcases Nat.lt_or_ge k 30 with c | c
          · exact c
          · have g1 := Nat.pow_le_pow_right (show 0 < 2 by decide) c
            have g2 : 2 ^ k * 1 ≤ 2 ^ k * (2 * m + 1) := Nat.mul_le_mul_left _ (by omega)
            omega
        refine aX_iload_n dX9_twos_17 rfl ?_
        refine aX_bipush (v := nI 30) dX9_twos_18 (by decide) ?_
        refine nMul dX9_twos_20 ?_
        refine aX_aload_n dX9_twos_21 rfl ?_
        refine aX_get (v := .ref (o + 1)) dX9_twos_22 lfX9_9 (ho.1 _ _) (ho.2.2.1 _ _) ?_
        refine aX_iload_n dX9_twos_25 rfl ?_
        refine nIald (v := nI (jDg x i)) dX9_twos_26 (ho.2.1 _ _) (by first | omega | exact Nat.lt_of_le_of_lt (Nat.mod_le _ _) (by omega)) (by decide) (hx i (by omega)) ?_
        refine aX_aload_n dX9_twos_27 rfl ?_
        refine aX_get (v := .ref (o + 1)) dX9_twos_28 lfX9_9 (ho.1 _ _) (ho.2.2.1 _ _) ?_
        refine aX_iload_n dX9_twos_31 rfl ?_
        refine nIald (v := nI (jDg x i)) dX9_twos_32 (ho.2.1 _ _) (by first | omega | exact Nat.lt_of_le_of_lt (Nat.mod_le _ _) (by omega)) (by decide) (hx i (by omega)) ?_
        refine aX_ineg dX9_twos_33 ?_
        refine aX_iand dX9_twos_34 ?_
        refine aX_iconst (v := nI 1) dX9_twos_35 (by decide) ?_
        refine aX_isub dX9_twos_36 ?_
        refine cSp (As := [.int (((nI (jDg x i)) &&& (-(nI (jDg x i)))) - (nI (1)))]) (st := [.int (nI (i * 30))]) (v := .int (nI (k))) dX9_twos_37 kX9_twos_46 aEok0 rfl rfl (Nat.le_of_ble_eq_true rfl) (by rw [lowbit hl1 hd]; exact c_bitCount (by omega)) ?_
        refine nAdd dX9_twos_40 ?_
        exact rI dX9_twos_41 rfl (⟨rfl, _, tz_at hz hd, rfl⟩)
set_option maxHeartbeats 1000000 in
theorem c_twos {I : Nat → Nat → Int32} {L : Nat → Nat → Int64} {R : Nat → Nat → Option Nat} {o : Nat} (ho : wSh R o) {x : Int} (hx : wD I o x) (hx0 : 0 < x) (hx1 : x < jBB 12) : aM mX9_twos [.ref o] (sh0, I, L, R) (fun ans h' => h' = (sh0, I, L, R) ∧ ∃ t, jTz x t ∧ ans = some (.int (nI t))) := by
  refine aM_of plX9_twos (Nat.le_of_ble_eq_true rfl) ?_
  refine aX_iconst (v := nI 0) dX9_twos_0 (by decide) ?_
  refine aX_istore_n (lv' := [(0, .ref (o)), (1, .int (nI (0)))]) dX9_twos_1 (by decide) rfl ?_
  exact l_twos ho hx hx0 hx1 _ 0 (by omega) rfl (by rw [jBB_0, Int.emod_one])
set_option maxHeartbeats 1000000 in
theorem c_limbAt {I : Nat → Nat → Int32} {L : Nat → Nat → Int64} {R : Nat → Nat → Option Nat} {o : Nat} (ho : wSh R o) {x : Int} {i : Nat} (hi : i < 2 ^ 31) (hx : i < 12 → I (o + 1) i = nI (jDg x i)) (hx0 : 0 ≤ x) (hx1 : x < jBB 12) : aMp mX9_limbAt [.ref o, .int (nI i)] (sh0, I, L, R) (.int (nI (jDg x i))) := by
  refine aM_of plX9_limbAt (Nat.le_of_ble_eq_true rfl) ?_
  refine aX_iload_n dX9_limbAt_0 rfl ?_
  refine aX_if_lt (tgt := 19) dX9_limbAt_1 (by decide) (fun c1 => ?_) (fun c1 => ?_)
  · exact absurd c1 (nI_pos (by omega))
  · refine aX_iload_n dX9_limbAt_4 rfl ?_
    refine aX_bipush (v := nI 12) dX9_limbAt_5 (by decide) ?_
    refine nGe (tgt := 19) dX9_limbAt_7 (by decide) (by first | omega | exact Nat.lt_of_le_of_lt (Nat.mod_le _ _) (by omega)) (by first | omega | exact Nat.lt_of_le_of_lt (Nat.mod_le _ _) (by omega)) (fun c2 => ?_) (fun c2 => ?_)
    · refine aX_iconst (v := nI 0) dX9_limbAt_19 (by decide) ?_
      exact rI dX9_limbAt_20 rfl (⟨rfl, by rw [jDg_hi hx0 (Int.lt_of_lt_of_le hx1 (jBB_le (by omega)))]⟩)
    · refine aX_aload_n dX9_limbAt_10 rfl ?_
      refine aX_get (v := .ref (o + 1)) dX9_limbAt_11 lfX9_9 (ho.1 _ _) (ho.2.2.1 _ _) ?_
      refine aX_iload_n dX9_limbAt_14 rfl ?_
      refine nIald (v := nI (jDg x i)) dX9_limbAt_15 (ho.2.1 _ _) (by first | omega | exact Nat.lt_of_le_of_lt (Nat.mod_le _ _) (by omega)) (by decide) (hx (by omega)) ?_
      refine aX_goto (tgt := 20) dX9_limbAt_16 (by decide) ?_
      exact rI dX9_limbAt_20 rfl (⟨rfl, rfl⟩)
theorem nI_shl {b s : Nat} (hs : s < 32) : nI b <<< (nI s &&& 31) = nI (b * 2 ^ s) := by
  rw [show (31 : Int32) = nI (2 ^ 5 - 1) from rfl, pk_andN (by omega) 5 (by decide), Nat.mod_eq_of_lt (by omega)]
  have h4 : ((nI s).toBitVec.smod 32).toNat = s := by
    rw [show (nI s).toBitVec = BitVec.ofNat 32 s from Int32.toBitVec_ofNat']
    have h5 : (BitVec.ofNat 32 s).smod 32 = BitVec.ofNat 32 s := by
      apply BitVec.eq_of_toInt_eq
      have e1 : (BitVec.ofNat 32 s).toInt = (s : Int) := by
        rw [BitVec.toInt_eq_toNat_of_msb (by rw [BitVec.msb_eq_false_iff_two_mul_lt, BitVec.toNat_ofNat]; omega), BitVec.toNat_ofNat, Nat.mod_eq_of_lt (by omega)]
      rw [BitVec.toInt_smod, e1, show (32 : BitVec 32).toInt = 32 from rfl, Int.fmod_eq_emod_of_nonneg _ (by decide), Int.emod_eq_of_lt (by omega) (by omega)]
    rw [h5, BitVec.toNat_ofNat, Nat.mod_eq_of_lt (by omega)]
  apply Int32.toBitVec.inj
  apply BitVec.eq_of_toNat_eq
  rw [pk_shl _ _ s h4, show (nI b).toBitVec = BitVec.ofNat 32 b from Int32.toBitVec_ofNat', show (nI (b * 2 ^ s)).toBitVec = BitVec.ofNat 32 (b * 2 ^ s) from Int32.toBitVec_ofNat', BitVec.toNat_ofNat, BitVec.toNat_ofNat, Nat.mod_mul_mod]
theorem nI_shr {a s : Nat} (ha : a < 2 ^ 31) (hs : s < 32) : nI a >>> (nI s &&& 31) = nI (a / 2 ^ s) := by
  have := iZ_shr (v := a) (s := s) (by omega) (by omega) hs
  rw [← nZ] at this
  rw [this, show (a : Int) / 2 ^ s = ((a / 2 ^ s : Nat) : Int) by push_cast; rfl, ← nZ]
theorem nI_or (a b : Nat) : nI a ||| nI b = nI (a % 2 ^ 32 ||| b % 2 ^ 32) := by
  apply Int32.toBitVec.inj
  apply BitVec.eq_of_toNat_eq
  have h1 := Nat.or_lt_two_pow (Nat.mod_lt a (show 0 < 2 ^ 32 by decide)) (Nat.mod_lt b (show 0 < 2 ^ 32 by decide))
  rw [Int32.toBitVec_or, BitVec.toNat_or, show (nI a).toBitVec = BitVec.ofNat 32 a from Int32.toBitVec_ofNat', show (nI b).toBitVec = BitVec.ofNat 32 b from Int32.toBitVec_ofNat', nI_tn h1, BitVec.toNat_ofNat, BitVec.toNat_ofNat]
theorem db_limb {a b t : Nat} (ha : a < 1073741824) (hb : b < 1073741824) (ht : t < 30) : (nI (a / 2 ^ t) ||| nI (b * 2 ^ (30 - t))) &&& nI 1073741823 = nI ((a / 2 ^ t + b * 2 ^ (30 - t)) % 2 ^ 30) := by
  have hlo : a / 2 ^ t < 2 ^ (30 - t) := by
    rw [Nat.div_lt_iff_lt_mul (Nat.two_pow_pos t), ← Nat.pow_add, show 30 - t + t = 30 by omega]
    exact ha
  have hp : 2 ^ (30 - t) ≤ 2 ^ 30 := Nat.pow_le_pow_right (by decide) (by omega)
  rw [nI_or]
  have h32 : b * 2 ^ (30 - t) % 2 ^ 32 = (b % 2 ^ (t + 2)) * 2 ^ (30 - t) := by
    rw [show (2 : Nat) ^ 32 = 2 ^ (t + 2) * 2 ^ (30 - t) by rw [← Nat.pow_add]; congr 1; omega, Nat.mul_mod_mul_right]
  rw [Nat.mod_eq_of_lt (show a / 2 ^ t < 2 ^ 32 by omega), h32, Nat.or_comm, ← Nat.shiftLeft_eq, ← Nat.shiftLeft_add_eq_or_of_lt hlo]
  have hbound : (b % 2 ^ (t + 2)) <<< (30 - t) + a / 2 ^ t < 2 ^ 32 := by
    rw [Nat.shiftLeft_eq]
    have g := Nat.mod_lt b (Nat.two_pow_pos (t + 2))
    have : (b % 2 ^ (t + 2) + 1) * 2 ^ (30 - t) ≤ 2 ^ (t + 2) * 2 ^ (30 - t) := Nat.mul_le_mul_right _ g
    rw [← Nat.pow_add, show t + 2 + (30 - t) = 32 by omega, Nat.add_mul, Nat.one_mul] at this
    omega
  rw [show (1073741823 : Nat) = 2 ^ 30 - 1 from rfl, pk_andN hbound 30 (by decide)]
  congr 1
  rw [Nat.shiftLeft_eq, ← h32, Nat.add_comm]
  have : b * 2 ^ (30 - t) % 2 ^ 32 % 2 ^ 30 = b * 2 ^ (30 - t) % 2 ^ 30 := Nat.mod_mod_of_dvd _ (by decide)
  omega
theorem jBB_add (i j : Nat) : jBB (i + j) = jBB i * jBB j := Int.pow_add ..
/-- a limb of the number without its lowest bits -/
theorem db_dig {x : Int} {i w t : Nat} (ht : t < 30) : jDg (x / 2 ^ (30 * w + t)) i = (jDg x (i + w) / 2 ^ t + jDg x (i + w + 1) * 2 ^ (30 - t)) % 2 ^ 30 := by
  have hp : (0 : Int) < 2 ^ t := Int.pow_pos (by decide)
  have e1 : x / 2 ^ (30 * w + t) / jBB i = x / jBB (i + w) / 2 ^ t := by
    rw [Int.ediv_ediv_of_nonneg (Int.le_of_lt (Int.pow_pos (by decide))), Int.ediv_ediv_of_nonneg (Int.le_of_lt (jBB_pos _))]
    congr 1
    rw [Int.pow_add, Nat.mul_comm 30 w, ← jBB_2, jBB_add]
    grind
  have h2 := jDg_high x (i + w)
  have h3 := jDg_high x (i + w + 1)
  have e30 : (2 : Int) ^ 30 = 2 ^ t * 2 ^ (30 - t) := by rw [← Int.pow_add]; congr 1; omega
  have e2 : x / jBB (i + w) / 2 ^ t = ((jDg x (i + w) / 2 ^ t + jDg x (i + w + 1) * 2 ^ (30 - t) : Nat) : Int) + 2 ^ 30 * (x / jBB (i + w + 1 + 1) * 2 ^ (30 - t)) := by
    rw [h2, h3]
    rw [show (x / jBB (i + w + 1 + 1) * 2 ^ 30 + ((jDg x (i + w + 1) : Nat) : Int)) * 2 ^ 30 + ((jDg x (i + w) : Nat) : Int) = ((jDg x (i + w) : Nat) : Int) + 2 ^ t * ((x / jBB (i + w + 1 + 1) * 2 ^ 30 + ((jDg x (i + w + 1) : Nat) : Int)) * 2 ^ (30 - t)) by rw [e30]; grind]
    rw [Int.add_mul_ediv_left _ _ (Int.ne_of_gt hp)]
    push_cast
    grind
  unfold jDg
  rw [e1, e2, Int.add_mul_emod_self_left]
  exact Int.toNat_natCast _
set_option maxHeartbeats 1000000 in
theorem l_dropBits {I : Nat → Nat → Int32} {L : Nat → Nat → Int64} {R : Nat → Nat → Option Nat} {o : Nat} (ho : wSh R o) {x : Int} (hx : wD I o x) (hx0 : 0 ≤ x) (hx1 : x < jBB 12) {c : Nat} (hc : c < 2 ^ 20) : ∀ (k9 i : Nat), i ≤ 12 → 12 - i = k9 → ∀ (I1 : Nat → Nat → Int32), (∀ j, j < i → I1 (o + 1) j = nI (jDg (x / 2 ^ c) j)) → (∀ j, i ≤ j → j < 12 → I1 (o + 1) j = nI (jDg x j)) → rK (o + 1) I I1 → aX mX9_dropBits aE0 (sh0, I1, L, R) 13 [(0, .ref (o)), (1, .int (nI (c))), (2, .int (nI (c / 30))), (3, .int (nI (c % 30))), (4, .int (nI (i)))] [] 0 0 (fun ans h' => ans = none ∧ ∃ I', h' = (sh0, I', L, R) ∧ wD I' o (x / 2 ^ c) ∧ rK (o + 1) I I') := by
  intro k9
  induction k9 using Nat.strongRecOn with
  | _ k9 ih =>
    intro i hi hk9 I1  hd hup hk
    have hl1 := jDg_lt x (i + c / 30)
    have hl2 := jDg_lt x (i + c / 30 + 1)
    have ht : c % 30 < 30 := Nat.mod_lt _ (by decide)
    have hcd : c / 30 ≤ c := Nat.div_le_self ..
    have hc30 : x / 2 ^ c = x / 2 ^ (30 * (c / 30) + c % 30) := by rw [Nat.div_add_mod]
    refine aX_iload dX9_dropBits_13 rfl ?_
    refine aX_bipush (v := nI 12) dX9_dropBits_15 (by decide) ?_
    refine nGe (tgt := 70) dX9_dropBits_17 (by decide) (by first | omega | exact Nat.lt_of_le_of_lt (Nat.mod_le _ _) (by omega)) (by first | omega | exact Nat.lt_of_le_of_lt (Nat.mod_le _ _) (by omega)) (fun c1 => ?_) (fun c1 => ?_)
    · exact rV dX9_dropBits_70 rfl (⟨rfl, I1, rfl, fun j hj => hd j (by omega), hk⟩)
    · refine aX_aload_n dX9_dropBits_20 rfl ?_
      refine aX_iload dX9_dropBits_21 rfl ?_
      refine aX_iload_n dX9_dropBits_23 rfl ?_
      refine nAdd dX9_dropBits_24 ?_
      refine cVp (As := [.int (nI (i + (c / 30)))]) (st := []) (v := .int (nI (jDg x (i + (c / 30))))) dX9_dropBits_25 kX9_dropBits_52 (ho.1 _ _) aEok0 rfl rfl (Nat.le_of_ble_eq_true rfl) (c_limbAt ho (x := x) (by omega) (fun hj => hup _ (by omega) hj) hx0 hx1) ?_
      refine aX_iload_n dX9_dropBits_28 rfl ?_
      refine aX_ishr dX9_dropBits_29 ?_
      rw [nI_shr (by omega) (by omega)]
      refine aX_istore (lv' := [(0, .ref (o)), (1, .int (nI (c))), (2, .int (nI (c / 30))), (3, .int (nI (c % 30))), (4, .int (nI (i))), (5, .int (nI (jDg x (i + c / 30) / 2 ^ (c % 30))))]) dX9_dropBits_30 (by decide) rfl ?_
      refine aX_aload_n dX9_dropBits_32 rfl ?_
      refine aX_iload dX9_dropBits_33 rfl ?_
      refine aX_iload_n dX9_dropBits_35 rfl ?_
      refine nAdd dX9_dropBits_36 ?_
      refine aX_iconst (v := nI 1) dX9_dropBits_37 (by decide) ?_
      refine nAdd dX9_dropBits_38 ?_
      refine cVp (As := [.int (nI ((i + (c / 30)) + 1))]) (st := []) (v := .int (nI (jDg x ((i + (c / 30)) + 1)))) dX9_dropBits_39 kX9_dropBits_52 (ho.1 _ _) aEok0 rfl rfl (Nat.le_of_ble_eq_true rfl) (c_limbAt ho (x := x) (by omega) (fun hj => hup _ (by omega) hj) hx0 hx1) ?_
      refine aX_bipush (v := nI 30) dX9_dropBits_42 (by decide) ?_
      refine aX_iload_n dX9_dropBits_44 rfl ?_
      refine nSub dX9_dropBits_45 (by first | omega | exact Nat.lt_of_le_of_lt (Nat.mod_le _ _) (by omega)) ?_
      refine aX_ishl dX9_dropBits_46 ?_
      rw [nI_shl (by omega)]
      refine aX_istore (lv' := [(0, .ref (o)), (1, .int (nI (c))), (2, .int (nI (c / 30))), (3, .int (nI (c % 30))), (4, .int (nI (i))), (5, .int (nI (jDg x (i + c / 30) / 2 ^ (c % 30)))), (6, .int (nI (jDg x (i + c / 30 + 1) * 2 ^ (30 - c % 30))))]) dX9_dropBits_47 (by decide) rfl ?_
      refine aX_aload_n dX9_dropBits_49 rfl ?_
      refine aX_get (v := .ref (o + 1)) dX9_dropBits_50 lfX9_9 (ho.1 _ _) (ho.2.2.1 _ _) ?_
      refine aX_iload dX9_dropBits_53 rfl ?_
      refine aX_iload dX9_dropBits_55 rfl ?_
      refine aX_iload dX9_dropBits_57 rfl ?_
      refine aX_ior dX9_dropBits_59 ?_
      refine aX_ldc (v := nI 1073741823) dX9_dropBits_60 lkX9_45 ?_
      refine aX_iand dX9_dropBits_62 ?_
      refine nIast dX9_dropBits_63 (ho.2.1 _ _) (by first | omega | exact Nat.lt_of_le_of_lt (Nat.mod_le _ _) (by omega)) (by decide) ?_
      refine nInc (lv' := [(0, .ref (o)), (1, .int (nI (c))), (2, .int (nI (c / 30))), (3, .int (nI (c % 30))), (4, .int (nI (i + 1))), (5, .int (nI (jDg x (i + c / 30) / 2 ^ (c % 30)))), (6, .int (nI (jDg x (i + c / 30 + 1) * 2 ^ (30 - c % 30))))]) dX9_dropBits_64 rfl rfl (by decide) rfl ?_
      refine aX_goto (tgt := 13) dX9_dropBits_67 (by decide) ?_
      refine aX_lv (lv' := [(0, .ref (o)), (1, .int (nI (c))), (2, .int (nI (c / 30))), (3, .int (nI (c % 30))), (4, .int (nI (i + 1)))]) [0, 1, 2, 3, 4] rfl ?_
      exact ih (12 - (i + 1)) (by omega) (i + 1) (by omega) rfl _ (fun j hj => by
        by_cases e : j = i
        · subst e; rw [aU_s, db_limb hl1 hl2 ht, hc30, db_dig ht]
        · rw [aU_n (by omega)]; exact hd j (by omega)) (fun j h1 h2 => by rw [aU_n (by omega)]; exact hup j (by omega) h2) (fun a j g => by rw [aU_n (by omega)]; exact hk a j g)
set_option maxHeartbeats 1000000 in
theorem c_dropBits {I : Nat → Nat → Int32} {L : Nat → Nat → Int64} {R : Nat → Nat → Option Nat} {o : Nat} (ho : wSh R o) {x : Int} (hx : wD I o x) (hx0 : 0 ≤ x) (hx1 : x < jBB 12) {c : Nat} (hc : c < 2 ^ 20) : aM mX9_dropBits [.ref o, .int (nI c)] (sh0, I, L, R) (fun ans h' => ans = none ∧ ∃ I', h' = (sh0, I', L, R) ∧ wD I' o (x / 2 ^ c) ∧ rK (o + 1) I I') := by
  refine aM_of plX9_dropBits (Nat.le_of_ble_eq_true rfl) ?_
  refine aX_iload_n dX9_dropBits_0 rfl ?_
  refine aX_bipush (v := nI 30) dX9_dropBits_1 (by decide) ?_
  refine nDiv dX9_dropBits_3 (by first | omega | exact Nat.lt_of_le_of_lt (Nat.mod_le _ _) (by omega)) (by first | omega | exact Nat.lt_of_le_of_lt (Nat.mod_le _ _) (by omega)) (by first | omega | exact Nat.lt_of_le_of_lt (Nat.mod_le _ _) (by omega)) ?_
  refine aX_istore_n (lv' := [(0, .ref (o)), (1, .int (nI (c))), (2, .int (nI (c / 30)))]) dX9_dropBits_4 (by decide) rfl ?_
  refine aX_iload_n dX9_dropBits_5 rfl ?_
  refine aX_bipush (v := nI 30) dX9_dropBits_6 (by decide) ?_
  refine nRem dX9_dropBits_8 (by first | omega | exact Nat.lt_of_le_of_lt (Nat.mod_le _ _) (by omega)) (by first | omega | exact Nat.lt_of_le_of_lt (Nat.mod_le _ _) (by omega)) (by first | omega | exact Nat.lt_of_le_of_lt (Nat.mod_le _ _) (by omega)) ?_
  refine aX_istore_n (lv' := [(0, .ref (o)), (1, .int (nI (c))), (2, .int (nI (c / 30))), (3, .int (nI (c % 30)))]) dX9_dropBits_9 (by decide) rfl ?_
  refine aX_iconst (v := nI 0) dX9_dropBits_10 (by decide) ?_
  refine aX_istore (lv' := [(0, .ref (o)), (1, .int (nI (c))), (2, .int (nI (c / 30))), (3, .int (nI (c % 30))), (4, .int (nI (0)))]) dX9_dropBits_11 (by decide) rfl ?_
  exact l_dropBits ho hx hx0 hx1 hc _ 0 (by omega) rfl I (fun j hj => by omega) (fun j _ hj => hx j hj) (fun _ _ _ => rfl)
