/-! FRACTIONS: above is 29, below is 31; left is 33, right is 35 -/
theorem wR_rK {I I' : Nat → Nat → Int32} {o q : Nat} {x : Int} {ng : Bool} {R : Nat → Nat → Option Nat} (h : rK (q + 1) I I') (h1 : wSh R o) (h2 : wSh R q) (ho : o ≠ q) (hx : wR I o x ng) : wR I' o x ng := wR_oK (rK_oK h) h1 h2 ho hx
theorem wR_new {I I' : Nat → Nat → Int32} {o : Nat} {x x' : Int} {ng : Bool} (h : rK (o + 1) I I') (hx : wR I o x ng) (hd : wD I' o x') : wR I' o x' ng := ⟨hd, (h o 1 (by omega)).trans hx.2⟩
def fK (I I' : Nat → Nat → Int32) : Prop := ∀ q j, (q < 29 ∨ 36 < q) → I' q j = I q j
theorem fK_refl {I : Nat → Nat → Int32} : fK I I := fun _ _ _ => rfl
theorem fK_trans {I I1 I2 : Nat → Nat → Int32} (h : fK I I1) (k : fK I1 I2) : fK I I2 := fun q j g => (k q j g).trans (h q j g)
theorem fK_o {I I1 I2 : Nat → Nat → Int32} {o : Nat} (h : fK I I1) (k : oK o I1 I2) (h1 : 28 < o) (h2 : o < 36) : fK I I2 := fun q j g => (k q j (by omega) (by omega)).trans (h q j g)
theorem wR_fK {I I' : Nat → Nat → Int32} {o : Nat} {x : Int} {ng : Bool} (h : fK I I') (ho : 36 < o) (hx : wR I o x ng) : wR I' o x ng := ⟨fun i hi => (h _ i (by omega)).trans (hx.1 i hi), (h o 1 (by omega)).trans hx.2⟩
theorem jTz_nat {X t : Nat} (h : jTz (X : Int) t) : ∃ w : Nat, X = 2 ^ t * (2 * w + 1) := by
  obtain ⟨w, hw⟩ := h
  have hp : (0 : Int) < 2 ^ t := Int.pow_pos (by decide)
  have h0 : 0 ≤ w := by
    refine Int.not_lt.mp (fun z => ?_)
    have : 2 ^ t * (2 * w + 1) ≤ 2 ^ t * (-1) := Int.mul_le_mul_of_nonneg_left (by omega) (Int.le_of_lt hp)
    omega
  refine ⟨w.toNat, ?_⟩
  have e : (((2 ^ t * (2 * w.toNat + 1) : Nat)) : Int) = 2 ^ t * (2 * w + 1) := by
    push_cast
    rw [Int.toNat_of_nonneg h0]
  omega
theorem jBB_12 : jBB 12 = ((2 ^ 360 : Nat) : Int) := by rw [jBB_2]; rfl
theorem tz_360 {X t w : Nat} (hX : (X : Int) < jBB 12) (e : X = 2 ^ t * (2 * w + 1)) : t < 360 := by
  rw [jBB_12] at hX
  rcases Nat.lt_or_ge t 360 with c | c
  · exact c
  · have g1 := Nat.pow_le_pow_right (show 0 < 2 by decide) c
    have g2 : 2 ^ t * 1 ≤ 2 ^ t * (2 * w + 1) := Nat.mul_le_mul_left _ (by omega)
    omega
theorem div_tz {X t w : Nat} (e : X = 2 ^ t * (2 * w + 1)) : (X : Int) / 2 ^ t = ((2 * w + 1 : Nat) : Int) := by
  rw [e]
  push_cast
  rw [Int.mul_ediv_cancel_left _ (Int.ne_of_gt (Int.pow_pos (by decide)))]
theorem odd_dg {w : Nat} (h : w % 2 = 1) : jDg (w : Int) 0 % 2 = 1 := by
  have := jDg_c (w : Int) 0
  rw [jBB_0, Int.ediv_one] at this
  omega
theorem gcd_odd2 {k w r : Nat} (hr : r % 2 = 1) : Nat.gcd (2 ^ k * w) r = Nat.gcd w r := by
  have hc : Nat.Coprime (2 ^ k) r := by
    apply Nat.Coprime.pow_left
    show Nat.gcd 2 r = 1
    rw [Nat.gcd_rec, hr]
    rfl
  exact Nat.Coprime.gcd_mul_left_cancel w hc
set_option maxHeartbeats 1000000 in
theorem c_take {I : Nat → Nat → Int32} {L : Nat → Nat → Int64} {R : Nat → Nat → Option Nat} (hR : aRf R) {u : Nat} (hu : wSh R u) {v : Nat} (hv : wSh R v) (hu6 : 36 < u) (hv6 : 36 < v) {x y : Int} {n1 n2 : Bool} (hx : wR I u x n1) (hy : wR I v y n2) : aM mX2_take [.ref 28, .ref u, .ref v] (sh0, I, L, R) (fun ans h' => ans = none ∧ ∃ I', h' = (sh0, I', L, R) ∧ wR I' 29 x n1 ∧ wR I' 31 y n2 ∧ fK I I') := by
  have hf0 : fK I I := fK_refl
  refine aM_of plX2_take (Nat.le_of_ble_eq_true rfl) ?_
  refine aX_aload_n dX2_take_0 rfl ?_
  refine aX_get dX2_take_1 lfX2_12 s28 (f28_0 hR) ?_
  refine aX_aload_n dX2_take_4 rfl ?_
  refine cV (As := [.ref (u)]) (st := []) dX2_take_5 kX2_take_27 s29 aEok0 rfl rfl (Nat.le_of_ble_eq_true rfl) (c_copy (w29 hR) hu (by omega) hx) (fun r h' hq => ?_)
  obtain ⟨rfl, J1, rfl, hd1, hk1⟩ := hq
  refine ⟨rfl, ?_⟩
  have h29_1 : wR J1 29 (x) n1 := hd1
  have hf1 : fK I J1 := fK_o hf0 hk1 (by decide) (by decide)
  refine aX_aload_n dX2_take_8 rfl ?_
  refine aX_get dX2_take_9 lfX2_18 s28 (f28_1 hR) ?_
  refine aX_aload_n dX2_take_12 rfl ?_
  refine cV (As := [.ref (v)]) (st := []) dX2_take_13 kX2_take_27 s31 aEok0 rfl rfl (Nat.le_of_ble_eq_true rfl) (c_copy (w31 hR) hv (by omega) (wR_fK hf1 hv6 hy)) (fun r h' hq => ?_)
  obtain ⟨rfl, J2, rfl, hd2, hk2⟩ := hq
  refine ⟨rfl, ?_⟩
  have h31_2 : wR J2 31 (y) n2 := hd2
  have h29_2 : wR J2 29 (x) n1 := wR_oK hk2 (w29 hR) (w31 hR) (by decide) h29_1
  have hf2 : fK I J2 := fK_o hf1 hk2 (by decide) (by decide)
  exact rV dX2_take_16 rfl (⟨rfl, J2, rfl, h29_2, h31_2, hf2⟩)
set_option maxHeartbeats 1000000 in
theorem c_addWhole {I : Nat → Nat → Int32} {L : Nat → Nat → Int64} {R : Nat → Nat → Option Nat} (hR : aRf R) {x y : Int} {n1 : Bool} (h29 : wR I 29 x n1) (h31 : wR I 31 y false) (hx0 : 0 ≤ x) (hy0 : 0 ≤ y) {n : Nat} (hn : n < 2147483648) (hb : x + y * n < jBB 12) (hp : n1 = true → 0 < x) : aM mX2_addWhole [.ref 28, .int (nI n)] (sh0, I, L, R) (fun ans h' => ans = none ∧ ∃ I', h' = (sh0, I', L, R) ∧ wR I' 29 ((sv n1 x + y * n).natAbs : Int) (decide (sv n1 x + y * n < 0)) ∧ wR I' 31 y false ∧ fK I I') := by
  have hf0 : fK I I := fK_refl
  refine aM_of plX2_addWhole (Nat.le_of_ble_eq_true rfl) ?_
  refine aX_aload_n dX2_addWhole_0 rfl ?_
  refine aX_get dX2_addWhole_1 lfX2_21 s28 (f28_2 hR) ?_
  refine aX_aload_n dX2_addWhole_4 rfl ?_
  refine aX_get dX2_addWhole_5 lfX2_18 s28 (f28_1 hR) ?_
  refine cV (As := [.ref 31]) (st := []) dX2_addWhole_8 kX2_addWhole_27 s33 aEok0 rfl rfl (Nat.le_of_ble_eq_true rfl) (c_copy (w33 hR) (w31 hR) (by decide) h31) (fun r h' hq => ?_)
  obtain ⟨rfl, J1, rfl, hd1, hk1⟩ := hq
  refine ⟨rfl, ?_⟩
  have h33_1 : wR J1 33 (y) false := hd1
  have h29_1 : wR J1 29 (x) n1 := wR_oK hk1 (w29 hR) (w33 hR) (by decide) h29
  have h31_1 : wR J1 31 (y) false := wR_oK hk1 (w31 hR) (w33 hR) (by decide) h31
  have hf1 : fK I J1 := fK_o hf0 hk1 (by decide) (by decide)
  refine aX_aload_n dX2_addWhole_11 rfl ?_
  refine aX_get dX2_addWhole_12 lfX2_21 s28 (f28_2 hR) ?_
  refine aX_iload_n dX2_addWhole_15 rfl ?_
  refine aX_iconst (v := nI 0) dX2_addWhole_16 (by decide) ?_
  refine cV (As := [.int (nI (n)), .int (nI (0))]) (st := []) dX2_addWhole_17 kX2_addWhole_31 s33 aEok0 rfl rfl (Nat.le_of_ble_eq_true rfl) (c_timesPlus (w33 hR) h33_1.1 hn (by decide)) (fun r h' hq => ?_)
  obtain ⟨rfl, J2, rfl, hd2, hk2⟩ := hq
  refine ⟨rfl, ?_⟩
  rw [show y * ((n : Nat) : Int) + ((0 : Nat) : Int) = y * n by omega] at hd2
  have h33_2 : wR J2 33 (y * n) false := wR_new hk2 h33_1 hd2
  have h29_2 : wR J2 29 (x) n1 := wR_rK hk2 (w29 hR) (w33 hR) (by decide) h29_1
  have h31_2 : wR J2 31 (y) false := wR_rK hk2 (w31 hR) (w33 hR) (by decide) h31_1
  have hf2 : fK I J2 := fK_o hf1 (rK_oK hk2) (by decide) (by decide)
  refine aX_aload_n dX2_addWhole_20 rfl ?_
  refine aX_get dX2_addWhole_21 lfX2_12 s28 (f28_0 hR) ?_
  refine aX_aload_n dX2_addWhole_24 rfl ?_
  refine aX_get dX2_addWhole_25 lfX2_21 s28 (f28_2 hR) ?_
  refine cV (As := [.ref 33]) (st := []) dX2_addWhole_28 kX2_addWhole_35 s29 aEok0 rfl rfl (Nat.le_of_ble_eq_true rfl) (c_add (w29 hR) (w33 hR) (by decide) h29_2 h33_2 hx0 (by exact Int.mul_nonneg hy0 (by omega)) hb hp (fun z => by cases z)) (fun r h' hq => ?_)
  obtain ⟨rfl, J3, rfl, hd3, hk3⟩ := hq
  refine ⟨rfl, ?_⟩
  have h29_3 : wR J3 29 (((sv n1 x + y * n).natAbs : Int)) ((decide (sv n1 x + y * n < 0))) := hd3
  have h31_3 : wR J3 31 (y) false := wR_oK hk3 (w31 hR) (w29 hR) (by decide) h31_2
  have h33_3 : wR J3 33 (y * n) false := wR_oK hk3 (w33 hR) (w29 hR) (by decide) h33_2
  have hf3 : fK I J3 := fK_o hf2 hk3 (by decide) (by decide)
  exact rV dX2_addWhole_31 rfl (⟨rfl, J3, rfl, h29_3, h31_3, hf3⟩)
set_option maxHeartbeats 1000000 in
theorem l_findOdd {I : Nat → Nat → Int32} {L : Nat → Nat → Int64} {R : Nat → Nat → Option Nat} (hR : aRf R) {X Y : Nat} {n1 n2 : Bool} {G a0 b0 x0 y0 : Nat} (hXe : X = 2 ^ a0 * (2 * x0 + 1)) (hYe : Y = 2 ^ b0 * (2 * y0 + 1)) (hG : G = Nat.gcd (2 * x0 + 1) (2 * y0 + 1)) : ∀ (k9 i : Nat), i ≤ 720 → 720 - i = k9 → ∀ (l r : Nat) (n3 n4 : Bool) (I1 : Nat → Nat → Int32), wR I1 29 (X : Int) n1 → wR I1 31 (Y : Int) n2 → wR I1 33 ((l : Nat) : Int) n3 → wR I1 35 ((r : Nat) : Int) n4 → Nat.gcd l r = G → l % 2 = 1 → r % 2 = 1 → l * r < 2 ^ (720 - i) → (l : Int) < jBB 12 → (r : Int) < jBB 12 → fK I I1 → aX mX2_findOddDivisor aE0 (sh0, I1, L, R) 52 [(0, .ref 28), (1, .int (nI (i)))] [] 0 0 (fun ans h' => ans = none ∧ ∃ I', h' = (sh0, I', L, R) ∧ wR I' 29 (X : Int) n1 ∧ wR I' 31 (Y : Int) n2 ∧ (∃ D a b x y ng, X = 2 ^ a * (2 * x + 1) ∧ Y = 2 ^ b * (2 * y + 1) ∧ D = Nat.gcd (2 * x + 1) (2 * y + 1) ∧ wR I' 33 ((D : Nat) : Int) ng) ∧ fK I I') := by
  intro k9
  induction k9 using Nat.strongRecOn with
  | _ k9 ih =>
    intro i hi hk9 l r  n3 n4  I1  h29 h31 h33 h35 hg hl hr hlr hlb hrb hf0
    refine aX_iload_n dX2_findOddDivisor_52 rfl ?_
    refine aX_sipush (v := nI 720) dX2_findOddDivisor_53 (by decide) ?_
    refine nGe (tgt := 125) dX2_findOddDivisor_56 (by decide) (by first | omega | exact Nat.lt_of_le_of_lt (Nat.mod_le _ _) (by omega)) (by first | omega | exact Nat.lt_of_le_of_lt (Nat.mod_le _ _) (by omega)) (fun c1 => ?_) (fun c1 => ?_)
    · exact rV dX2_findOddDivisor_125 rfl (absurd hlr (by rw [show 720 - i = 0 by omega]; have := Nat.mul_pos (show 0 < l by omega) (show 0 < r by omega); omega))
    · refine aX_aload_n dX2_findOddDivisor_59 rfl ?_
      refine aX_get dX2_findOddDivisor_60 lfX2_21 s28 (f28_2 hR) ?_
      refine aX_aload_n dX2_findOddDivisor_63 rfl ?_
      refine aX_get dX2_findOddDivisor_64 lfX2_24 s28 (f28_3 hR) ?_
      refine cVp (As := [.ref 35]) (st := []) (v := .int (jCp (l : Int) (r : Int))) dX2_findOddDivisor_67 kX2_findOddDivisor_65 s33 aEok0 rfl rfl (Nat.le_of_ble_eq_true rfl) (c_compareSize (w33 hR) h33.1 (w35 hR) h35.1 (by omega) hlb (by omega) hrb) ?_
      refine aX_istore_n (lv' := [(0, .ref 28), (1, .int (nI (i))), (2, .int (jCp (l : Int) (r : Int)))]) dX2_findOddDivisor_70 (by decide) rfl ?_
      refine aX_iload_n dX2_findOddDivisor_71 rfl ?_
      refine aX_if_ne (tgt := 76) dX2_findOddDivisor_72 (by decide) (fun c2 => ?_) (fun c2 => ?_)
      · have hne : l ≠ r := fun z => c2 (jCp_eq.mpr (by rw [z]))
        refine aX_iload_n dX2_findOddDivisor_76 rfl ?_
        refine aX_if_le (tgt := 87) dX2_findOddDivisor_77 (by decide) (fun c3 => ?_) (fun c3 => ?_)
        · have hlt : l < r := by
            have z : ¬ (r : Int) < l := fun y => absurd (jCp_gt.mpr y) (by rw [Int32.not_lt]; exact c3)
            omega
          refine aX_aload_n dX2_findOddDivisor_87 rfl ?_
          refine aX_get dX2_findOddDivisor_88 lfX2_24 s28 (f28_3 hR) ?_
          refine aX_astore_n (lv' := [(0, .ref 28), (1, .int (nI (i))), (2, .int (jCp (l : Int) (r : Int))), (3, .ref 35)]) dX2_findOddDivisor_91 (by decide) rfl ?_
          refine aX_aload_n dX2_findOddDivisor_92 rfl ?_
          refine aX_iload_n dX2_findOddDivisor_93 rfl ?_
          refine aX_if_le (tgt := 104) dX2_findOddDivisor_94 (by decide) (fun c4 => ?_) (fun c4 => ?_)
          · refine aX_aload_n dX2_findOddDivisor_104 rfl ?_
            refine aX_get dX2_findOddDivisor_105 lfX2_21 s28 (f28_2 hR) ?_
            refine cV (As := [.ref 33]) (st := []) dX2_findOddDivisor_108 kX2_findOddDivisor_69 s35 aEok0 rfl rfl (Nat.le_of_ble_eq_true rfl) (c_subtractSize (w35 hR) h35.1 (w33 hR) h33.1) (fun r' h' hq9 => ?_)
            obtain ⟨rfl, J1, rfl, hd1, hk1⟩ := hq9
            refine ⟨rfl, ?_⟩
            rw [show ((r : Nat) : Int) - ((l : Nat) : Int) = ((r - l : Nat) : Int) by omega] at hd1
            have h35_1 : wR J1 35 (((r - l : Nat) : Int)) n4 := wR_new hk1 h35 hd1
            have h29_1 : wR J1 29 ((X : Int)) n1 := wR_rK hk1 (w29 hR) (w35 hR) (by decide) h29
            have h31_1 : wR J1 31 ((Y : Int)) n2 := wR_rK hk1 (w31 hR) (w35 hR) (by decide) h31
            have h33_1 : wR J1 33 (((l : Nat) : Int)) n3 := wR_rK hk1 (w33 hR) (w35 hR) (by decide) h33
            have hf1 : fK I J1 := fK_o hf0 (rK_oK hk1) (by decide) (by decide)
            refine aX_aload_n dX2_findOddDivisor_111 rfl ?_
            refine aX_aload_n dX2_findOddDivisor_112 rfl ?_
            refine cV (As := []) (st := [.ref 35]) dX2_findOddDivisor_113 kX2_findOddDivisor_46 s35 aEok0 rfl rfl (Nat.le_of_ble_eq_true rfl) (c_twos (w35 hR) h35_1.1 (by omega) (by omega)) (fun r' h' hq9 => ?_)
            obtain ⟨rfl, t, ht, rfl⟩ := hq9
            refine ⟨rfl, ?_⟩
            obtain ⟨w, hw⟩ := jTz_nat ht
            have ht360 := tz_360 (X := r - l) (by omega) hw
            have ht1 : 1 ≤ t := by
              rcases Nat.eq_zero_or_pos t with z | z
              · subst z; rw [Nat.pow_zero] at hw; omega
              · exact z
            refine cV (As := [.int (nI (t))]) (st := []) dX2_findOddDivisor_116 kX2_findOddDivisor_56 s35 aEok0 rfl rfl (Nat.le_of_ble_eq_true rfl) (c_dropBits (w35 hR) h35_1.1 (by omega) (by omega) (by omega)) (fun r' h' hq9 => ?_)
            obtain ⟨rfl, J2, rfl, hd2, hk2⟩ := hq9
            refine ⟨rfl, ?_⟩
            rw [div_tz hw] at hd2
            have h35_2 : wR J2 35 (((2 * w + 1 : Nat) : Int)) n4 := wR_new hk2 h35_1 hd2
            have h29_2 : wR J2 29 ((X : Int)) n1 := wR_rK hk2 (w29 hR) (w35 hR) (by decide) h29_1
            have h31_2 : wR J2 31 ((Y : Int)) n2 := wR_rK hk2 (w31 hR) (w35 hR) (by decide) h31_1
            have h33_2 : wR J2 33 (((l : Nat) : Int)) n3 := wR_rK hk2 (w33 hR) (w35 hR) (by decide) h33_1
            have hf2 : fK I J2 := fK_o hf1 (rK_oK hk2) (by decide) (by decide)
            refine nInc (lv' := [(0, .ref 28), (1, .int (nI (i + 1))), (2, .int (jCp (l : Int) (r : Int))), (3, .ref 35)]) dX2_findOddDivisor_119 rfl rfl (by decide) rfl ?_
            refine aX_goto (tgt := 52) dX2_findOddDivisor_122 (by decide) ?_
            refine aX_lv (lv' := [(0, .ref 28), (1, .int (nI (i + 1)))]) [0, 1] rfl ?_
            have hwle : 2 * (2 * w + 1) ≤ r - l := by
              rw [hw]
              exact Nat.mul_le_mul_right _ (by have := Nat.pow_le_pow_right (show 0 < 2 by decide) ht1; omega)
            have hgc : Nat.gcd l (2 * w + 1) = G := by
              rw [← hg]
              rw [Nat.gcd_comm, ← gcd_odd2 (k := t) (w := 2 * w + 1) hl, ← hw, Nat.gcd_comm l r]
              exact Nat.gcd_sub_self_left (by omega)
            have hprod : l * (2 * w + 1) < 2 ^ (720 - (i + 1)) := by
              have h1 : 2 * (l * (2 * w + 1)) ≤ l * r := by
                have := Nat.mul_le_mul_right l (show 2 * (2 * w + 1) ≤ r by omega)
                grind
              have h2 : 2 ^ (720 - i) = 2 * 2 ^ (720 - (i + 1)) := by rw [show 720 - i = (720 - (i + 1)) + 1 by omega, Nat.pow_succ, Nat.mul_comm]
              omega
            exact ih (720 - (i + 1)) (by omega) (i + 1) (by omega) rfl l (2 * w + 1) n3 n4 _ h29_2 h31_2 h33_2 h35_2 hgc hl (by omega) hprod (by omega) (by omega) hf2
          · exact absurd (jCp_gt.mp (show 0 < jCp (l : Int) (r : Int) by rw [← Int32.not_le]; exact c4)) (by omega)
        · have hlt : r < l := by
            have z : (r : Int) < l := jCp_gt.mp (by rw [← Int32.not_le]; exact c3)
            omega
          refine aX_aload_n dX2_findOddDivisor_80 rfl ?_
          refine aX_get dX2_findOddDivisor_81 lfX2_21 s28 (f28_2 hR) ?_
          refine aX_goto (tgt := 91) dX2_findOddDivisor_84 (by decide) ?_
          refine aX_astore_n (lv' := [(0, .ref 28), (1, .int (nI (i))), (2, .int (jCp (l : Int) (r : Int))), (3, .ref 33)]) dX2_findOddDivisor_91 (by decide) rfl ?_
          refine aX_aload_n dX2_findOddDivisor_92 rfl ?_
          refine aX_iload_n dX2_findOddDivisor_93 rfl ?_
          refine aX_if_le (tgt := 104) dX2_findOddDivisor_94 (by decide) (fun c5 => ?_) (fun c5 => ?_)
          · exact absurd (jCp_gt.mpr (show (r : Int) < l by omega)) (by rw [Int32.not_lt]; exact c5)
          · refine aX_aload_n dX2_findOddDivisor_97 rfl ?_
            refine aX_get dX2_findOddDivisor_98 lfX2_24 s28 (f28_3 hR) ?_
            refine aX_goto (tgt := 108) dX2_findOddDivisor_101 (by decide) ?_
            refine cV (As := [.ref 35]) (st := []) dX2_findOddDivisor_108 kX2_findOddDivisor_69 s33 aEok0 rfl rfl (Nat.le_of_ble_eq_true rfl) (c_subtractSize (w33 hR) h33.1 (w35 hR) h35.1) (fun r' h' hq9 => ?_)
            obtain ⟨rfl, J1, rfl, hd1, hk1⟩ := hq9
            refine ⟨rfl, ?_⟩
            rw [show ((l : Nat) : Int) - ((r : Nat) : Int) = ((l - r : Nat) : Int) by omega] at hd1
            have h33_1 : wR J1 33 (((l - r : Nat) : Int)) n3 := wR_new hk1 h33 hd1
            have h29_1 : wR J1 29 ((X : Int)) n1 := wR_rK hk1 (w29 hR) (w33 hR) (by decide) h29
            have h31_1 : wR J1 31 ((Y : Int)) n2 := wR_rK hk1 (w31 hR) (w33 hR) (by decide) h31
            have h35_1 : wR J1 35 (((r : Nat) : Int)) n4 := wR_rK hk1 (w35 hR) (w33 hR) (by decide) h35
            have hf1 : fK I J1 := fK_o hf0 (rK_oK hk1) (by decide) (by decide)
            refine aX_aload_n dX2_findOddDivisor_111 rfl ?_
            refine aX_aload_n dX2_findOddDivisor_112 rfl ?_
            refine cV (As := []) (st := [.ref 33]) dX2_findOddDivisor_113 kX2_findOddDivisor_46 s33 aEok0 rfl rfl (Nat.le_of_ble_eq_true rfl) (c_twos (w33 hR) h33_1.1 (by omega) (by omega)) (fun r' h' hq9 => ?_)
            obtain ⟨rfl, t, ht, rfl⟩ := hq9
            refine ⟨rfl, ?_⟩
            obtain ⟨w, hw⟩ := jTz_nat ht
            have ht360 := tz_360 (X := l - r) (by omega) hw
            have ht1 : 1 ≤ t := by
              rcases Nat.eq_zero_or_pos t with z | z
              · subst z; rw [Nat.pow_zero] at hw; omega
              · exact z
            refine cV (As := [.int (nI (t))]) (st := []) dX2_findOddDivisor_116 kX2_findOddDivisor_56 s33 aEok0 rfl rfl (Nat.le_of_ble_eq_true rfl) (c_dropBits (w33 hR) h33_1.1 (by omega) (by omega) (by omega)) (fun r' h' hq9 => ?_)
            obtain ⟨rfl, J2, rfl, hd2, hk2⟩ := hq9
            refine ⟨rfl, ?_⟩
            rw [div_tz hw] at hd2
            have h33_2 : wR J2 33 (((2 * w + 1 : Nat) : Int)) n3 := wR_new hk2 h33_1 hd2
            have h29_2 : wR J2 29 ((X : Int)) n1 := wR_rK hk2 (w29 hR) (w33 hR) (by decide) h29_1
            have h31_2 : wR J2 31 ((Y : Int)) n2 := wR_rK hk2 (w31 hR) (w33 hR) (by decide) h31_1
            have h35_2 : wR J2 35 (((r : Nat) : Int)) n4 := wR_rK hk2 (w35 hR) (w33 hR) (by decide) h35_1
            have hf2 : fK I J2 := fK_o hf1 (rK_oK hk2) (by decide) (by decide)
            refine nInc (lv' := [(0, .ref 28), (1, .int (nI (i + 1))), (2, .int (jCp (l : Int) (r : Int))), (3, .ref 33)]) dX2_findOddDivisor_119 rfl rfl (by decide) rfl ?_
            refine aX_goto (tgt := 52) dX2_findOddDivisor_122 (by decide) ?_
            refine aX_lv (lv' := [(0, .ref 28), (1, .int (nI (i + 1)))]) [0, 1] rfl ?_
            have hwle : 2 * (2 * w + 1) ≤ l - r := by
              rw [hw]
              exact Nat.mul_le_mul_right _ (by have := Nat.pow_le_pow_right (show 0 < 2 by decide) ht1; omega)
            have hgc : Nat.gcd (2 * w + 1) r = G := by
              rw [← hg]
              rw [← gcd_odd2 (k := t) (w := 2 * w + 1) hr, ← hw]
              exact Nat.gcd_sub_self_left (by omega)
            have hprod : (2 * w + 1) * r < 2 ^ (720 - (i + 1)) := by
              have h1 : 2 * ((2 * w + 1) * r) ≤ l * r := by
                have := Nat.mul_le_mul_right r (show 2 * (2 * w + 1) ≤ l by omega)
                grind
              have h2 : 2 ^ (720 - i) = 2 * 2 ^ (720 - (i + 1)) := by rw [show 720 - i = (720 - (i + 1)) + 1 by omega, Nat.pow_succ, Nat.mul_comm]
              omega
            exact ih (720 - (i + 1)) (by omega) (i + 1) (by omega) rfl (2 * w + 1) r n3 n4 _ h29_2 h31_2 h33_2 h35_2 hgc (by omega) hr hprod (by omega) (by omega) hf2
      · have heq : (l : Int) = r := jCp_eq.mp c2
        have hlr2 : l = r := by omega
        exact rV dX2_findOddDivisor_75 rfl (⟨rfl, I1, rfl, h29, h31, ⟨G, a0, b0, x0, y0, n3, hXe, hYe, hG, by rw [show G = l by rw [← hg, ← hlr2, Nat.gcd_self]]; exact h33⟩, hf0⟩)
set_option maxHeartbeats 1000000 in
theorem c_findOddDivisor {I : Nat → Nat → Int32} {L : Nat → Nat → Int64} {R : Nat → Nat → Option Nat} (hR : aRf R) {X Y : Nat} {n1 n2 : Bool} (h29 : wR I 29 (X : Int) n1) (h31 : wR I 31 (Y : Int) n2) (hX0 : 0 < X) (hY0 : 0 < Y) (hX : (X : Int) < jBB 12) (hY : (Y : Int) < jBB 12) : aM mX2_findOddDivisor [.ref 28] (sh0, I, L, R) (fun ans h' => ans = none ∧ ∃ I', h' = (sh0, I', L, R) ∧ wR I' 29 (X : Int) n1 ∧ wR I' 31 (Y : Int) n2 ∧ (∃ D a b x y ng, X = 2 ^ a * (2 * x + 1) ∧ Y = 2 ^ b * (2 * y + 1) ∧ D = Nat.gcd (2 * x + 1) (2 * y + 1) ∧ wR I' 33 ((D : Nat) : Int) ng) ∧ fK I I') := by
  have hf0 : fK I I := fK_refl
  refine aM_of plX2_findOddDivisor (Nat.le_of_ble_eq_true rfl) ?_
  refine aX_aload_n dX2_findOddDivisor_0 rfl ?_
  refine aX_get dX2_findOddDivisor_1 lfX2_21 s28 (f28_2 hR) ?_
  refine aX_aload_n dX2_findOddDivisor_4 rfl ?_
  refine aX_get dX2_findOddDivisor_5 lfX2_12 s28 (f28_0 hR) ?_
  refine cV (As := [.ref 29]) (st := []) dX2_findOddDivisor_8 kX2_findOddDivisor_27 s33 aEok0 rfl rfl (Nat.le_of_ble_eq_true rfl) (c_copy (w33 hR) (w29 hR) (by decide) h29) (fun r h' hq => ?_)
  obtain ⟨rfl, J1, rfl, hd1, hk1⟩ := hq
  refine ⟨rfl, ?_⟩
  have h33_1 : wR J1 33 ((X : Int)) n1 := hd1
  have h29_1 : wR J1 29 ((X : Int)) n1 := wR_oK hk1 (w29 hR) (w33 hR) (by decide) h29
  have h31_1 : wR J1 31 ((Y : Int)) n2 := wR_oK hk1 (w31 hR) (w33 hR) (by decide) h31
  have hf1 : fK I J1 := fK_o hf0 hk1 (by decide) (by decide)
  refine aX_aload_n dX2_findOddDivisor_11 rfl ?_
  refine aX_get dX2_findOddDivisor_12 lfX2_24 s28 (f28_3 hR) ?_
  refine aX_aload_n dX2_findOddDivisor_15 rfl ?_
  refine aX_get dX2_findOddDivisor_16 lfX2_18 s28 (f28_1 hR) ?_
  refine cV (As := [.ref 31]) (st := []) dX2_findOddDivisor_19 kX2_findOddDivisor_27 s35 aEok0 rfl rfl (Nat.le_of_ble_eq_true rfl) (c_copy (w35 hR) (w31 hR) (by decide) h31_1) (fun r h' hq => ?_)
  obtain ⟨rfl, J2, rfl, hd2, hk2⟩ := hq
  refine ⟨rfl, ?_⟩
  have h35_2 : wR J2 35 ((Y : Int)) n2 := hd2
  have h29_2 : wR J2 29 ((X : Int)) n1 := wR_oK hk2 (w29 hR) (w35 hR) (by decide) h29_1
  have h31_2 : wR J2 31 ((Y : Int)) n2 := wR_oK hk2 (w31 hR) (w35 hR) (by decide) h31_1
  have h33_2 : wR J2 33 ((X : Int)) n1 := wR_oK hk2 (w33 hR) (w35 hR) (by decide) h33_1
  have hf2 : fK I J2 := fK_o hf1 hk2 (by decide) (by decide)
  refine aX_aload_n dX2_findOddDivisor_22 rfl ?_
  refine aX_get dX2_findOddDivisor_23 lfX2_21 s28 (f28_2 hR) ?_
  refine aX_aload_n dX2_findOddDivisor_26 rfl ?_
  refine aX_get dX2_findOddDivisor_27 lfX2_21 s28 (f28_2 hR) ?_
  refine cV (As := []) (st := [.ref 33]) dX2_findOddDivisor_30 kX2_findOddDivisor_46 s33 aEok0 rfl rfl (Nat.le_of_ble_eq_true rfl) (c_twos (w33 hR) h33_2.1 (by omega) (by omega)) (fun r h' hq => ?_)
  obtain ⟨rfl, a0, ht33, rfl⟩ := hq
  refine ⟨rfl, ?_⟩
  obtain ⟨x0, hw33⟩ := jTz_nat ht33
  have h360_33 := tz_360 hX hw33
  refine cV (As := [.int (nI (a0))]) (st := []) dX2_findOddDivisor_33 kX2_findOddDivisor_56 s33 aEok0 rfl rfl (Nat.le_of_ble_eq_true rfl) (c_dropBits (w33 hR) h33_2.1 (by omega) (by omega) (by omega)) (fun r h' hq => ?_)
  obtain ⟨rfl, J3, rfl, hd3, hk3⟩ := hq
  refine ⟨rfl, ?_⟩
  rw [div_tz hw33] at hd3
  have h33_3 : wR J3 33 (((2 * x0 + 1 : Nat) : Int)) n1 := wR_new hk3 h33_2 hd3
  have h29_3 : wR J3 29 ((X : Int)) n1 := wR_rK hk3 (w29 hR) (w33 hR) (by decide) h29_2
  have h31_3 : wR J3 31 ((Y : Int)) n2 := wR_rK hk3 (w31 hR) (w33 hR) (by decide) h31_2
  have h35_3 : wR J3 35 ((Y : Int)) n2 := wR_rK hk3 (w35 hR) (w33 hR) (by decide) h35_2
  have hf3 : fK I J3 := fK_o hf2 (rK_oK hk3) (by decide) (by decide)
  refine aX_aload_n dX2_findOddDivisor_36 rfl ?_
  refine aX_get dX2_findOddDivisor_37 lfX2_24 s28 (f28_3 hR) ?_
  refine aX_aload_n dX2_findOddDivisor_40 rfl ?_
  refine aX_get dX2_findOddDivisor_41 lfX2_24 s28 (f28_3 hR) ?_
  refine cV (As := []) (st := [.ref 35]) dX2_findOddDivisor_44 kX2_findOddDivisor_46 s35 aEok0 rfl rfl (Nat.le_of_ble_eq_true rfl) (c_twos (w35 hR) h35_3.1 (by omega) (by omega)) (fun r h' hq => ?_)
  obtain ⟨rfl, b0, ht35, rfl⟩ := hq
  refine ⟨rfl, ?_⟩
  obtain ⟨y0, hw35⟩ := jTz_nat ht35
  have h360_35 := tz_360 hY hw35
  refine cV (As := [.int (nI (b0))]) (st := []) dX2_findOddDivisor_47 kX2_findOddDivisor_56 s35 aEok0 rfl rfl (Nat.le_of_ble_eq_true rfl) (c_dropBits (w35 hR) h35_3.1 (by omega) (by omega) (by omega)) (fun r h' hq => ?_)
  obtain ⟨rfl, J4, rfl, hd4, hk4⟩ := hq
  refine ⟨rfl, ?_⟩
  rw [div_tz hw35] at hd4
  have h35_4 : wR J4 35 (((2 * y0 + 1 : Nat) : Int)) n2 := wR_new hk4 h35_3 hd4
  have h29_4 : wR J4 29 ((X : Int)) n1 := wR_rK hk4 (w29 hR) (w35 hR) (by decide) h29_3
  have h31_4 : wR J4 31 ((Y : Int)) n2 := wR_rK hk4 (w31 hR) (w35 hR) (by decide) h31_3
  have h33_4 : wR J4 33 (((2 * x0 + 1 : Nat) : Int)) n1 := wR_rK hk4 (w33 hR) (w35 hR) (by decide) h33_3
  have hf4 : fK I J4 := fK_o hf3 (rK_oK hk4) (by decide) (by decide)
  refine aX_iconst (v := nI 0) dX2_findOddDivisor_50 (by decide) ?_
  refine aX_istore_n (lv' := [(0, .ref 28), (1, .int (nI (0)))]) dX2_findOddDivisor_51 (by decide) rfl ?_
  have hxl : 2 * x0 + 1 ≤ X := by rw [hw33]; exact Nat.le_mul_of_pos_left _ (Nat.two_pow_pos _)
  have hyl : 2 * y0 + 1 ≤ Y := by rw [hw35]; exact Nat.le_mul_of_pos_left _ (Nat.two_pow_pos _)
  have hpr : (2 * x0 + 1) * (2 * y0 + 1) < 2 ^ (720 - 0) := by
    rw [jBB_12] at hX hY
    have g1 : 2 * x0 + 1 < 2 ^ 360 := by omega
    have g2 : 2 * y0 + 1 < 2 ^ 360 := by omega
    have := Nat.mul_lt_mul_of_lt_of_lt g1 g2
    rwa [← Nat.pow_add] at this
  exact l_findOdd hR hw33 hw35 rfl _ 0 (by omega) rfl _ _ _ _ _ h29_4 h31_4 h33_4 h35_4 rfl (by omega) (by omega) hpr (by omega) (by omega) hf4
