theorem low_terms {X Y m a b x y D : Nat} (hY : 0 < Y) (hX : X = 2 ^ m * (2 ^ a * (2 * x + 1))) (hYe : Y = 2 ^ m * (2 ^ b * (2 * y + 1))) (hab : a = 0 ∨ b = 0) (hD : D = Nat.gcd (2 * x + 1) (2 * y + 1)) : 2 ^ a * (2 * x + 1) = D * (X / Nat.gcd X Y) ∧ 2 ^ b * (2 * y + 1) = D * (Y / Nat.gcd X Y) := by
  have hg : Nat.gcd (2 ^ a * (2 * x + 1)) (2 ^ b * (2 * y + 1)) = D := by
    rcases hab with z | z
    · subst z
      rw [Nat.pow_zero, Nat.one_mul, Nat.gcd_comm, gcd_odd2 (by omega), Nat.gcd_comm, hD]
    · subst z
      rw [Nat.pow_zero, Nat.one_mul, gcd_odd2 (by omega), hD]
  have hG : Nat.gcd X Y = 2 ^ m * D := by rw [hX, hYe, Nat.gcd_mul_left, hg]
  have hDp : 0 < D := by rw [← hg]; exact Nat.gcd_pos_of_pos_right _ (Nat.mul_pos (Nat.two_pow_pos _) (by omega))
  have hda : D ∣ 2 ^ a * (2 * x + 1) := by rw [← hg]; exact Nat.gcd_dvd_left _ _
  have hdb : D ∣ 2 ^ b * (2 * y + 1) := by rw [← hg]; exact Nat.gcd_dvd_right _ _
  rw [hG]
  constructor
  · rw [hX, Nat.mul_div_mul_left _ _ (Nat.two_pow_pos m), Nat.mul_div_cancel' hda]
  · rw [hYe, Nat.mul_div_mul_left _ _ (Nat.two_pow_pos m), Nat.mul_div_cancel' hdb]
theorem div_min {X t m w : Nat} (e : X = 2 ^ t * (2 * w + 1)) (h : m ≤ t) : (X : Int) / 2 ^ m = ((2 ^ (t - m) * (2 * w + 1) : Nat) : Int) := by
  have e2 : X = 2 ^ m * (2 ^ (t - m) * (2 * w + 1)) := by rw [← Nat.mul_assoc, ← Nat.pow_add, Nat.add_sub_cancel' h]; exact e
  rw [e2]
  push_cast
  rw [Int.mul_ediv_cancel_left _ (Int.ne_of_gt (Int.pow_pos (by decide)))]
theorem div_le {X t m w : Nat} (e : X = 2 ^ t * (2 * w + 1)) (h : m ≤ t) : 2 ^ (t - m) * (2 * w + 1) ≤ X := by
  rw [e]
  exact Nat.mul_le_mul_right _ (Nat.pow_le_pow_right (by decide) (by omega))
set_option maxHeartbeats 1000000 in
theorem c_lowest {I : Nat → Nat → Int32} {L : Nat → Nat → Int64} {R : Nat → Nat → Option Nat} (hR : aRf R) {X Y : Nat} {n1 : Bool} (h29 : wR I 29 (X : Int) n1) (h31 : wR I 31 (Y : Int) false) (hY0 : 0 < Y) (hX : (X : Int) < jBB 12) (hY : (Y : Int) < jBB 12) : aM mX2_bringToLowestTerms [.ref 28] (sh0, I, L, R) (fun ans h' => ans = none ∧ ∃ I', h' = (sh0, I', L, R) ∧ wR I' 29 ((X / Nat.gcd X Y : Nat) : Int) n1 ∧ wR I' 31 ((Y / Nat.gcd X Y : Nat) : Int) false ∧ fK I I') := by
  have hf0 : fK I I := fK_refl
  refine aM_of plX2_bringToLowestTerms (Nat.le_of_ble_eq_true rfl) ?_
  refine aX_aload_n dX2_bringToLowestTerms_0 rfl ?_
  refine aX_get dX2_bringToLowestTerms_1 lfX2_12 s28 (f28_0 hR) ?_
  refine aX_iconst (v := nI 0) dX2_bringToLowestTerms_4 (by decide) ?_
  refine cVp (As := [.int (nI (0))]) (st := []) (v := .int (bI (decide ((X : Int) = ((0 : Nat) : Int))))) dX2_bringToLowestTerms_5 kX2_bringToLowestTerms_38 s29 aEok0 rfl rfl (Nat.le_of_ble_eq_true rfl) (c_hasSize (w29 hR) h29.1 (by omega) hX (by decide)) ?_
  refine bEq (tgt := 20) dX2_bringToLowestTerms_8 (by decide) (fun c1 => ?_) (fun c1 => ?_)
  · have hX0 : 0 < X := by have := of_decide_eq_false c1; omega
    refine aX_aload_n dX2_bringToLowestTerms_20 rfl ?_
    refine aX_get dX2_bringToLowestTerms_21 lfX2_12 s28 (f28_0 hR) ?_
    refine cV (As := []) (st := []) dX2_bringToLowestTerms_24 kX2_bringToLowestTerms_46 s29 aEok0 rfl rfl (Nat.le_of_ble_eq_true rfl) (c_twos (w29 hR) h29.1 (by omega) (by omega)) (fun r h' hq => ?_)
    obtain ⟨rfl, ta, ht29, rfl⟩ := hq
    refine ⟨rfl, ?_⟩
    obtain ⟨wa, hw29⟩ := jTz_nat ht29
    have h360_29 := tz_360 hX hw29
    refine aX_aload_n dX2_bringToLowestTerms_27 rfl ?_
    refine aX_get dX2_bringToLowestTerms_28 lfX2_18 s28 (f28_1 hR) ?_
    refine cV (As := []) (st := [.int (nI (ta))]) dX2_bringToLowestTerms_31 kX2_bringToLowestTerms_46 s31 aEok0 rfl rfl (Nat.le_of_ble_eq_true rfl) (c_twos (w31 hR) h31.1 (by omega) (by omega)) (fun r h' hq => ?_)
    obtain ⟨rfl, tb, ht31, rfl⟩ := hq
    refine ⟨rfl, ?_⟩
    obtain ⟨wb, hw31⟩ := jTz_nat ht31
    have h360_31 := tz_360 hY hw31
    refine cSp (As := [.int (nI (ta)), .int (nI (tb))]) (st := []) (v := .int (nI (min ta tb))) dX2_bringToLowestTerms_34 kX2_bringToLowestTerms_50 aEok0 rfl rfl (Nat.le_of_ble_eq_true rfl) (c_min (by omega) (by omega)) ?_
    refine aX_istore_n (lv' := [(0, .ref 28), (1, .int (nI (min ta tb)))]) dX2_bringToLowestTerms_37 (by decide) rfl ?_
    refine aX_aload_n dX2_bringToLowestTerms_38 rfl ?_
    refine aX_get dX2_bringToLowestTerms_39 lfX2_12 s28 (f28_0 hR) ?_
    refine aX_iload_n dX2_bringToLowestTerms_42 rfl ?_
    refine cV (As := [.int (nI (min ta tb))]) (st := []) dX2_bringToLowestTerms_43 kX2_bringToLowestTerms_56 s29 aEok0 rfl rfl (Nat.le_of_ble_eq_true rfl) (c_dropBits (w29 hR) h29.1 (by omega) (by omega) (by omega)) (fun r h' hq => ?_)
    obtain ⟨rfl, J1, rfl, hd1, hk1⟩ := hq
    refine ⟨rfl, ?_⟩
    rw [div_min (X := X) (t := ta) (m := min ta tb) (w := wa) hw29 (by omega)] at hd1
    have h29_1 : wR J1 29 (((2 ^ (ta - min ta tb) * (2 * wa + 1) : Nat) : Int)) n1 := wR_new hk1 h29 hd1
    have h31_1 : wR J1 31 ((Y : Int)) false := wR_rK hk1 (w31 hR) (w29 hR) (by decide) h31
    have hf1 : fK I J1 := fK_o hf0 (rK_oK hk1) (by decide) (by decide)
    refine aX_aload_n dX2_bringToLowestTerms_46 rfl ?_
    refine aX_get dX2_bringToLowestTerms_47 lfX2_18 s28 (f28_1 hR) ?_
    refine aX_iload_n dX2_bringToLowestTerms_50 rfl ?_
    refine cV (As := [.int (nI (min ta tb))]) (st := []) dX2_bringToLowestTerms_51 kX2_bringToLowestTerms_56 s31 aEok0 rfl rfl (Nat.le_of_ble_eq_true rfl) (c_dropBits (w31 hR) h31_1.1 (by omega) (by omega) (by omega)) (fun r h' hq => ?_)
    obtain ⟨rfl, J2, rfl, hd2, hk2⟩ := hq
    refine ⟨rfl, ?_⟩
    rw [div_min (X := Y) (t := tb) (m := min ta tb) (w := wb) hw31 (by omega)] at hd2
    have h31_2 : wR J2 31 (((2 ^ (tb - min ta tb) * (2 * wb + 1) : Nat) : Int)) false := wR_new hk2 h31_1 hd2
    have h29_2 : wR J2 29 (((2 ^ (ta - min ta tb) * (2 * wa + 1) : Nat) : Int)) n1 := wR_rK hk2 (w29 hR) (w31 hR) (by decide) h29_1
    have hf2 : fK I J2 := fK_o hf1 (rK_oK hk2) (by decide) (by decide)
    refine aX_aload_n dX2_bringToLowestTerms_54 rfl ?_
    refine cV (As := []) (st := []) dX2_bringToLowestTerms_55 kX2_bringToLowestTerms_59 s28 aEok0 rfl rfl (Nat.le_of_ble_eq_true rfl) (c_findOddDivisor hR h29_2 h31_2 (Nat.mul_pos (Nat.two_pow_pos _) (by omega)) (Nat.mul_pos (Nat.two_pow_pos _) (by omega)) (by have := div_le (X := X) (m := min ta tb) hw29 (by omega); omega) (by have := div_le (X := Y) (m := min ta tb) hw31 (by omega); omega)) (fun r h' hq => ?_)
    obtain ⟨rfl, J3, rfl, h29_3, h31_3, ⟨D, a, b, x, y, ng, hXe, hYe, hD, h33_3⟩, hk3⟩ := hq
    refine ⟨rfl, ?_⟩
    have hf3 := fK_trans hf2 hk3
    have hab : ta - min ta tb = 0 ∨ tb - min ta tb = 0 := by omega
    have hXX : X = 2 ^ min ta tb * (2 ^ a * (2 * x + 1)) := by rw [← hXe, ← Nat.mul_assoc, ← Nat.pow_add, Nat.add_sub_cancel' (by omega)]; exact hw29
    have hYY : Y = 2 ^ min ta tb * (2 ^ b * (2 * y + 1)) := by rw [← hYe, ← Nat.mul_assoc, ← Nat.pow_add, Nat.add_sub_cancel' (by omega)]; exact hw31
    have hab' : a = 0 ∨ b = 0 := by
      rcases hab with z | z
      · left
        rw [z, Nat.pow_zero, Nat.one_mul] at hXe
        rcases Nat.eq_zero_or_pos a with c | c
        · exact c
        · rw [show a = (a - 1) + 1 by omega, Nat.pow_succ, Nat.mul_right_comm] at hXe; omega
      · right
        rw [z, Nat.pow_zero, Nat.one_mul] at hYe
        rcases Nat.eq_zero_or_pos b with c | c
        · exact c
        · rw [show b = (b - 1) + 1 by omega, Nat.pow_succ, Nat.mul_right_comm] at hYe; omega
    have hlt := low_terms hY0 hXX hYY hab' hD
    have hDo : D % 2 = 1 := by
      have hd : D ∣ 2 * x + 1 := by rw [hD]; exact Nat.gcd_dvd_left _ _
      rcases Nat.mod_two_eq_zero_or_one D with z | z
      · have := Nat.dvd_trans (Nat.dvd_of_mod_eq_zero z) hd; omega
      · exact z
    rw [← hXe] at hlt
    rw [← hYe] at hlt
    have hzx : ((2 ^ (ta - min ta tb) * (2 * wa + 1) : Nat) : Int) = ((D : Nat) : Int) * ((X / Nat.gcd X Y : Nat) : Int) := by rw [hlt.1]; push_cast; rfl
    have hzy : ((2 ^ (tb - min ta tb) * (2 * wb + 1) : Nat) : Int) = ((D : Nat) : Int) * ((Y / Nat.gcd X Y : Nat) : Int) := by rw [hlt.2]; push_cast; rfl
    refine aX_aload_n dX2_bringToLowestTerms_58 rfl ?_
    refine aX_get dX2_bringToLowestTerms_59 lfX2_12 s28 (f28_0 hR) ?_
    refine aX_aload_n dX2_bringToLowestTerms_62 rfl ?_
    refine aX_get dX2_bringToLowestTerms_63 lfX2_21 s28 (f28_2 hR) ?_
    refine cV (As := [.ref 33]) (st := []) dX2_bringToLowestTerms_66 kX2_bringToLowestTerms_62 s29 aEok0 rfl rfl (Nat.le_of_ble_eq_true rfl) (c_divideByOdd (w29 hR) h29_3.1 (w33 hR) (by decide) h33_3.1 (odd_dg hDo) hzx) (fun r h' hq => ?_)
    obtain ⟨rfl, J4, rfl, hd4, hk4⟩ := hq
    refine ⟨rfl, ?_⟩
    have h29_4 : wR J4 29 (((X / Nat.gcd X Y : Nat) : Int)) n1 := wR_new hk4 h29_3 hd4
    have h31_4 : wR J4 31 (((2 ^ (tb - min ta tb) * (2 * wb + 1) : Nat) : Int)) false := wR_rK hk4 (w31 hR) (w29 hR) (by decide) h31_3
    have h33_4 : wR J4 33 (((D : Nat) : Int)) ng := wR_rK hk4 (w33 hR) (w29 hR) (by decide) h33_3
    have hf4 : fK I J4 := fK_o hf3 (rK_oK hk4) (by decide) (by decide)
    refine aX_aload_n dX2_bringToLowestTerms_69 rfl ?_
    refine aX_get dX2_bringToLowestTerms_70 lfX2_18 s28 (f28_1 hR) ?_
    refine aX_aload_n dX2_bringToLowestTerms_73 rfl ?_
    refine aX_get dX2_bringToLowestTerms_74 lfX2_21 s28 (f28_2 hR) ?_
    refine cV (As := [.ref 33]) (st := []) dX2_bringToLowestTerms_77 kX2_bringToLowestTerms_62 s31 aEok0 rfl rfl (Nat.le_of_ble_eq_true rfl) (c_divideByOdd (w31 hR) h31_4.1 (w33 hR) (by decide) h33_4.1 (odd_dg hDo) hzy) (fun r h' hq => ?_)
    obtain ⟨rfl, J5, rfl, hd5, hk5⟩ := hq
    refine ⟨rfl, ?_⟩
    have h31_5 : wR J5 31 (((Y / Nat.gcd X Y : Nat) : Int)) false := wR_new hk5 h31_4 hd5
    have h29_5 : wR J5 29 (((X / Nat.gcd X Y : Nat) : Int)) n1 := wR_rK hk5 (w29 hR) (w31 hR) (by decide) h29_4
    have h33_5 : wR J5 33 (((D : Nat) : Int)) ng := wR_rK hk5 (w33 hR) (w31 hR) (by decide) h33_4
    have hf5 : fK I J5 := fK_o hf4 (rK_oK hk5) (by decide) (by decide)
    exact rV dX2_bringToLowestTerms_80 rfl (⟨rfl, J5, rfl, h29_5, h31_5, hf5⟩)
  · have hX0 : X = 0 := by have := of_decide_eq_true c1; omega
    refine aX_aload_n dX2_bringToLowestTerms_11 rfl ?_
    refine aX_get dX2_bringToLowestTerms_12 lfX2_18 s28 (f28_1 hR) ?_
    refine aX_iconst (v := nI 1) dX2_bringToLowestTerms_15 (by decide) ?_
    refine cV (As := [.int (nI (1))]) (st := []) dX2_bringToLowestTerms_16 kX2_bringToLowestTerms_42 s31 aEok0 rfl rfl (Nat.le_of_ble_eq_true rfl) (c_become (w31 hR) (n := 1) (by decide)) (fun r h' hq => ?_)
    obtain ⟨rfl, J1, rfl, hd1, hk1⟩ := hq
    refine ⟨rfl, ?_⟩
    have h31_1 : wR J1 31 (((1 : Nat) : Int)) false := hd1
    have h29_1 : wR J1 29 ((X : Int)) n1 := wR_oK hk1 (w29 hR) (w31 hR) (by decide) h29
    have hf1 : fK I J1 := fK_o hf0 hk1 (by decide) (by decide)
    exact rV dX2_bringToLowestTerms_19 rfl (⟨rfl, J1, rfl, by subst hX0; rw [Nat.zero_div]; exact h29_1, by subst hX0; rw [Nat.gcd_zero_left, Nat.div_self hY0]; exact h31_1, hf1⟩)
def jBit (c : Nat) : Nat := match c with
  | 0 => 0
  | c + 1 => 2 ^ c
theorem jBit_half {i : Nat} (h : i < 31) : 2 ^ (30 - i) / 2 ^ 1 = jBit (31 - (i + 1)) := by
  rcases Nat.lt_or_ge i 30 with c | c
  · rw [show 31 - (i + 1) = (29 - i) + 1 by omega, show 30 - i = (29 - i) + 1 by omega]
    show _ = 2 ^ (29 - i)
    rw [Nat.pow_succ, Nat.pow_one, Nat.mul_div_cancel _ (by decide)]
  · rw [show i = 30 by omega]; rfl
theorem jBit_at {i : Nat} (h : i < 31) : jBit (31 - i) = 2 ^ (30 - i) := by rw [show 31 - i = (30 - i) + 1 by omega]; rfl
theorem q_step {T P : Nat} (hP : 0 < P) : T / P * P = if T / (2 * P) * (2 * P) + P ≤ T then T / (2 * P) * (2 * P) + P else T / (2 * P) * (2 * P) := by
  have h1 := Nat.div_add_mod T (2 * P)
  have h2 := Nat.mod_lt T (show 0 < 2 * P by omega)
  have e : T / (2 * P) * (2 * P) = P * (2 * (T / (2 * P))) := by grind
  have e0 : (2 * P) * (T / (2 * P)) = P * (2 * (T / (2 * P))) := by grind
  rw [e0] at h1
  rw [e]
  split
  · rename_i hc
    have : T / P = 2 * (T / (2 * P)) + 1 := by
      refine Nat.div_eq_of_lt_le ?_ ?_
      · rw [Nat.add_mul, Nat.one_mul, Nat.mul_comm (2 * (T / (2 * P)))]; omega
      · rw [show (2 * (T / (2 * P)) + 1 + 1) * P = P * (2 * (T / (2 * P))) + 2 * P by grind]; omega
    rw [this, Nat.add_mul, Nat.one_mul, Nat.mul_comm (2 * (T / (2 * P)))]
  · rename_i hc
    have : T / P = 2 * (T / (2 * P)) := by
      refine Nat.div_eq_of_lt_le ?_ ?_
      · rw [Nat.mul_comm (2 * (T / (2 * P)))]; omega
      · rw [show (2 * (T / (2 * P)) + 1) * P = P * (2 * (T / (2 * P))) + P by grind]; omega
    rw [this, Nat.mul_comm (2 * (T / (2 * P)))]
theorem jBit_lt (i : Nat) : jBit (31 - i) < 2147483648 := by
  rcases Nat.lt_or_ge i 31 with c | c
  · rw [jBit_at c]
    have : 2 ^ (30 - i) ≤ 2 ^ 30 := Nat.pow_le_pow_right (by decide) (by omega)
    omega
  · rw [show 31 - i = 0 by omega]; decide
set_option maxHeartbeats 1000000 in
theorem l_quot {I : Nat → Nat → Int32} {L : Nat → Nat → Int64} {R : Nat → Nat → Option Nat} (hR : aRf R) {X Y : Nat} {n1 n2 : Bool} (hY0 : 0 < Y) (hX : (X : Int) < jBB 12) (hYb : (Y : Int) * 2147483648 < jBB 12) (hq31 : X / Y < 2147483648) : ∀ (k9 i : Nat), i ≤ 31 → 31 - i = k9 → ∀ (I1 : Nat → Nat → Int32), wR I1 29 (X : Int) n1 → wR I1 31 (Y : Int) n2 → fK I I1 → aX mX2_quotientOfSizes aE0 (sh0, I1, L, R) 5 [(0, .ref 28), (1, .int (nI (X / Y / 2 ^ (31 - i) * 2 ^ (31 - i)))), (2, .int (nI (jBit (31 - i))))] [] 0 0 (fun ans h' => ans = some (.int (nI (X / Y))) ∧ ∃ I', h' = (sh0, I', L, R) ∧ wR I' 29 (X : Int) n1 ∧ wR I' 31 (Y : Int) n2 ∧ fK I I') := by
  intro k9
  induction k9 using Nat.strongRecOn with
  | _ k9 ih =>
    intro i hi hk9 I1  h29 h31 hf0
    have hqd := Nat.div_mul_le_self (X / Y) (2 ^ (31 - i))
    have hpw : i < 31 → 2 ^ (31 - i) = 2 * 2 ^ (30 - i) := fun z => by rw [show 31 - i = (30 - i) + 1 by omega, Nat.pow_succ, Nat.mul_comm]
    have hp30 : 2 ^ (30 - i) ≤ 2 ^ 30 := Nat.pow_le_pow_right (by decide) (by omega)
    have hp0 := Nat.two_pow_pos (30 - i)
    refine aX_iload_n dX2_quotientOfSizes_5 rfl ?_
    refine nIf_le (tgt := 56) dX2_quotientOfSizes_6 (by decide) (by first | omega | exact Nat.lt_of_le_of_lt (Nat.mod_le _ _) (by omega) | (have := jBit_lt i; omega)) (fun c1 => ?_) (fun c1 => ?_)
    · have hi31 : i = 31 := by
        rcases Nat.lt_or_ge i 31 with c | c
        · rw [jBit_at c] at c1; omega
        · omega
      refine aX_iload_n dX2_quotientOfSizes_56 rfl ?_
      exact rI dX2_quotientOfSizes_57 rfl (⟨by rw [hi31]; show _ = some (Value.int (nI (X / Y))); rw [Nat.sub_self, Nat.pow_zero, Nat.div_one, Nat.mul_one], I1, rfl, h29, h31, hf0⟩)
    · have hi31 : i < 31 := by
        rcases Nat.lt_or_ge i 31 with c | c
        · exact c
        · rw [show 31 - i = 0 by omega] at c1; exact absurd c1 (by decide)
      have hqs := q_step (T := X / Y) hp0
      rw [← hpw hi31] at hqs
      have hqb : X / Y / 2 ^ (31 - i) * 2 ^ (31 - i) + 2 ^ (30 - i) < 2147483648 := by
        have g1 := Nat.div_add_mod (X / Y) (2 ^ (31 - i))
        have g2 : X / Y / 2 ^ (31 - i) < 2 ^ i := by
          rw [Nat.div_lt_iff_lt_mul (Nat.two_pow_pos _), ← Nat.pow_add, show i + (31 - i) = 31 by omega]
          exact hq31
        have g3 := Nat.mul_le_mul_right (2 ^ (31 - i)) (show X / Y / 2 ^ (31 - i) + 1 ≤ 2 ^ i from g2)
        rw [← Nat.pow_add, show i + (31 - i) = 31 by omega, Nat.add_mul, Nat.one_mul, hpw hi31] at g3
        rw [hpw hi31]
        omega
      rw [jBit_at hi31]
      refine aX_aload_n dX2_quotientOfSizes_9 rfl ?_
      refine aX_get dX2_quotientOfSizes_10 lfX2_21 s28 (f28_2 hR) ?_
      refine aX_aload_n dX2_quotientOfSizes_13 rfl ?_
      refine aX_get dX2_quotientOfSizes_14 lfX2_18 s28 (f28_1 hR) ?_
      refine cV (As := [.ref 31]) (st := []) dX2_quotientOfSizes_17 kX2_quotientOfSizes_27 s33 aEok0 rfl rfl (Nat.le_of_ble_eq_true rfl) (c_copy (w33 hR) (w31 hR) (by decide) h31) (fun r h' hq => ?_)
      obtain ⟨rfl, J1, rfl, hd1, hk1⟩ := hq
      refine ⟨rfl, ?_⟩
      have h33_1 : wR J1 33 ((Y : Int)) n2 := hd1
      have h29_1 : wR J1 29 ((X : Int)) n1 := wR_oK hk1 (w29 hR) (w33 hR) (by decide) h29
      have h31_1 : wR J1 31 ((Y : Int)) n2 := wR_oK hk1 (w31 hR) (w33 hR) (by decide) h31
      have hf1 : fK I J1 := fK_o hf0 hk1 (by decide) (by decide)
      refine aX_aload_n dX2_quotientOfSizes_20 rfl ?_
      refine aX_get dX2_quotientOfSizes_21 lfX2_21 s28 (f28_2 hR) ?_
      refine aX_iload_n dX2_quotientOfSizes_24 rfl ?_
      refine aX_iload_n dX2_quotientOfSizes_25 rfl ?_
      refine nAdd dX2_quotientOfSizes_26 ?_
      refine aX_iconst (v := nI 0) dX2_quotientOfSizes_27 (by decide) ?_
      refine cV (As := [.int (nI ((X / Y / 2 ^ (31 - i) * 2 ^ (31 - i)) + (2 ^ (30 - i)))), .int (nI (0))]) (st := []) dX2_quotientOfSizes_28 kX2_quotientOfSizes_31 s33 aEok0 rfl rfl (Nat.le_of_ble_eq_true rfl) (c_timesPlus (w33 hR) h33_1.1 (by omega) (by decide)) (fun r h' hq => ?_)
      obtain ⟨rfl, J2, rfl, hd2, hk2⟩ := hq
      refine ⟨rfl, ?_⟩
      rw [show ((Y : Nat) : Int) * ((X / Y / 2 ^ (31 - i) * 2 ^ (31 - i) + 2 ^ (30 - i) : Nat) : Int) + ((0 : Nat) : Int) = ((Y * (X / Y / 2 ^ (31 - i) * 2 ^ (31 - i) + 2 ^ (30 - i)) : Nat) : Int) by push_cast; omega] at hd2
      have hyb : ((Y * (X / Y / 2 ^ (31 - i) * 2 ^ (31 - i) + 2 ^ (30 - i)) : Nat) : Int) < jBB 12 := by
        have := Nat.mul_le_mul_left Y (Nat.le_of_lt hqb)
        omega
      have h33_2 : wR J2 33 (((Y * (X / Y / 2 ^ (31 - i) * 2 ^ (31 - i) + 2 ^ (30 - i)) : Nat) : Int)) n2 := wR_new hk2 h33_1 hd2
      have h29_2 : wR J2 29 ((X : Int)) n1 := wR_rK hk2 (w29 hR) (w33 hR) (by decide) h29_1
      have h31_2 : wR J2 31 ((Y : Int)) n2 := wR_rK hk2 (w31 hR) (w33 hR) (by decide) h31_1
      have hf2 : fK I J2 := fK_o hf1 (rK_oK hk2) (by decide) (by decide)
      refine aX_aload_n dX2_quotientOfSizes_31 rfl ?_
      refine aX_get dX2_quotientOfSizes_32 lfX2_21 s28 (f28_2 hR) ?_
      refine aX_aload_n dX2_quotientOfSizes_35 rfl ?_
      refine aX_get dX2_quotientOfSizes_36 lfX2_12 s28 (f28_0 hR) ?_
      refine cVp (As := [.ref 29]) (st := []) (v := .int (jCp ((Y * (X / Y / 2 ^ (31 - i) * 2 ^ (31 - i) + 2 ^ (30 - i)) : Nat) : Int) (X : Int))) dX2_quotientOfSizes_39 kX2_quotientOfSizes_65 s33 aEok0 rfl rfl (Nat.le_of_ble_eq_true rfl) (c_compareSize (w33 hR) h33_2.1 (w29 hR) h29_2.1 (by omega) hyb (by omega) hX) ?_
      refine aX_if_gt (tgt := 49) dX2_quotientOfSizes_42 (by decide) (fun c2 => ?_) (fun c2 => ?_)
      · have hno : ¬ X / Y / 2 ^ (31 - i) * 2 ^ (31 - i) + 2 ^ (30 - i) ≤ X / Y := by
          have z := jCp_gt.mp c2
          intro y
          have := (Nat.le_div_iff_mul_le hY0).mp y
          rw [Nat.mul_comm] at this
          omega
        rw [if_neg hno] at hqs
        refine aX_iload_n dX2_quotientOfSizes_49 rfl ?_
        refine aX_iconst (v := nI 1) dX2_quotientOfSizes_50 (by decide) ?_
        refine aX_ishr dX2_quotientOfSizes_51 ?_
        rw [nI_shr (by omega) (by decide), jBit_half hi31, show 31 - (i + 1) = 30 - i by omega]
        refine aX_istore_n (lv' := [(0, .ref 28), (1, .int (nI (X / Y / 2 ^ (31 - i) * 2 ^ (31 - i)))), (2, .int (nI (jBit (30 - i))))]) dX2_quotientOfSizes_52 (by decide) rfl ?_
        refine aX_goto (tgt := 5) dX2_quotientOfSizes_53 (by decide) ?_
        rw [← hqs]
        have hz := ih (31 - (i + 1)) (by omega) (i + 1) (by omega) rfl _ h29_2 h31_2 hf2
        rw [show 31 - (i + 1) = 30 - i by omega] at hz
        exact hz
      · have hyes : X / Y / 2 ^ (31 - i) * 2 ^ (31 - i) + 2 ^ (30 - i) ≤ X / Y := by
          have z : ¬ ((X : Nat) : Int) < ((Y * (X / Y / 2 ^ (31 - i) * 2 ^ (31 - i) + 2 ^ (30 - i)) : Nat) : Int) := fun z => c2 (jCp_gt.mpr z)
          refine (Nat.le_div_iff_mul_le hY0).mpr ?_
          rw [Nat.mul_comm]
          omega
        rw [if_pos hyes] at hqs
        refine aX_iload_n dX2_quotientOfSizes_45 rfl ?_
        refine aX_iload_n dX2_quotientOfSizes_46 rfl ?_
        refine nAdd dX2_quotientOfSizes_47 ?_
        refine aX_istore_n (lv' := [(0, .ref 28), (1, .int (nI ((X / Y / 2 ^ (31 - i) * 2 ^ (31 - i)) + (2 ^ (30 - i))))), (2, .int (nI (2 ^ (30 - i))))]) dX2_quotientOfSizes_48 (by decide) rfl ?_
        refine aX_iload_n dX2_quotientOfSizes_49 rfl ?_
        refine aX_iconst (v := nI 1) dX2_quotientOfSizes_50 (by decide) ?_
        refine aX_ishr dX2_quotientOfSizes_51 ?_
        rw [nI_shr (by omega) (by decide), jBit_half hi31, show 31 - (i + 1) = 30 - i by omega]
        refine aX_istore_n (lv' := [(0, .ref 28), (1, .int (nI ((X / Y / 2 ^ (31 - i) * 2 ^ (31 - i)) + (2 ^ (30 - i))))), (2, .int (nI (jBit (30 - i))))]) dX2_quotientOfSizes_52 (by decide) rfl ?_
        refine aX_goto (tgt := 5) dX2_quotientOfSizes_53 (by decide) ?_
        rw [← hqs]
        have hz := ih (31 - (i + 1)) (by omega) (i + 1) (by omega) rfl _ h29_2 h31_2 hf2
        rw [show 31 - (i + 1) = 30 - i by omega] at hz
        exact hz
set_option maxHeartbeats 1000000 in
theorem c_quot {I : Nat → Nat → Int32} {L : Nat → Nat → Int64} {R : Nat → Nat → Option Nat} (hR : aRf R) {X Y : Nat} {n1 n2 : Bool} (hY0 : 0 < Y) (hX : (X : Int) < jBB 12) (hYb : (Y : Int) * 2147483648 < jBB 12) (hq31 : X / Y < 2147483648) (h29 : wR I 29 (X : Int) n1) (h31 : wR I 31 (Y : Int) n2) : aM mX2_quotientOfSizes [.ref 28] (sh0, I, L, R) (fun ans h' => ans = some (.int (nI (X / Y))) ∧ ∃ I', h' = (sh0, I', L, R) ∧ wR I' 29 (X : Int) n1 ∧ wR I' 31 (Y : Int) n2 ∧ fK I I') := by
  refine aM_of plX2_quotientOfSizes (Nat.le_of_ble_eq_true rfl) ?_
  refine aX_iconst (v := nI 0) dX2_quotientOfSizes_0 (by decide) ?_
  refine aX_istore_n (lv' := [(0, .ref 28), (1, .int (nI (0)))]) dX2_quotientOfSizes_1 (by decide) rfl ?_
  refine aX_ldc (v := nI 1073741824) dX2_quotientOfSizes_2 lkX2_79 ?_
  refine aX_istore_n (lv' := [(0, .ref 28), (1, .int (nI (0))), (2, .int (nI (1073741824)))]) dX2_quotientOfSizes_4 (by decide) rfl ?_
  have hz := l_quot (L := L) (n1 := n1) (n2 := n2) hR hY0 hX hYb hq31 _ 0 (by omega) rfl I h29 h31 fK_refl
  rw [show X / Y / 2 ^ (31 - 0) * 2 ^ (31 - 0) = 0 by rw [Nat.div_eq_of_lt hq31, Nat.zero_mul]] at hz
  exact hz
