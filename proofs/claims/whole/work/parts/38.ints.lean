/-! INTS AND LONGS AS WHOLE NUMBERS OF ANY SIGN -/
def iZ (v : Int) : Int32 := Int32.ofInt v
def lZ (v : Int) : Int64 := Int64.ofInt v
theorem nZ (n : Nat) : nI n = iZ n := by
  apply Int32.toBitVec.inj
  show BitVec.ofNat 32 n = BitVec.ofInt 32 n
  exact (BitVec.ofInt_natCast 32 n).symm
theorem kZ (n : Nat) : lN n = lZ n := by
  apply Int64.toBitVec.inj
  show BitVec.ofNat 64 n = BitVec.ofInt 64 n
  exact (BitVec.ofInt_natCast 64 n).symm
theorem iZ_toInt {v : Int} (h1 : -2147483648 ≤ v) (h2 : v < 2147483648) : (iZ v).toInt = v := Int32.toInt_ofInt_of_le h1 h2
theorem lZ_toInt {v : Int} (h1 : -9223372036854775808 ≤ v) (h2 : v < 9223372036854775808) : (lZ v).toInt = v := Int64.toInt_ofInt_of_le h1 h2
theorem iZ_of (x : Int32) : x = iZ x.toInt := (Int32.ofInt_toInt x).symm
theorem lZ_of (x : Int64) : x = lZ x.toInt := (Int64.ofInt_toInt x).symm
theorem iZ_add (a b : Int) : iZ a + iZ b = iZ (a + b) := (Int32.ofInt_add a b).symm
theorem iZ_mul (a b : Int) : iZ a * iZ b = iZ (a * b) := (Int32.ofInt_mul a b).symm
theorem iZ_sub (a b : Int) : iZ a - iZ b = iZ (a - b) := (Int32.ofInt_sub a b).symm
theorem iZ_neg (a : Int) : -iZ a = iZ (-a) := (Int32.ofInt_neg a).symm
theorem lZ_add (a b : Int) : lZ a + lZ b = lZ (a + b) := (Int64.ofInt_add a b).symm
theorem lZ_mul (a b : Int) : lZ a * lZ b = lZ (a * b) := (Int64.ofInt_mul a b).symm
theorem lZ_sub (a b : Int) : lZ a - lZ b = lZ (a - b) := (Int64.ofInt_sub a b).symm
theorem lZ_neg (a : Int) : -lZ a = lZ (-a) := (Int64.ofInt_neg a).symm
theorem lZ_i2l {v : Int} (h1 : -2147483648 ≤ v) (h2 : v < 2147483648) : (iZ v).toInt64 = lZ v := by
  apply Int64.toInt.inj
  rw [Int32.toInt_toInt64, iZ_toInt h1 h2, lZ_toInt (by omega) (by omega)]
theorem lZ_i2l' (x : Int32) : x.toInt64 = lZ x.toInt := by
  apply Int64.toInt.inj
  have h1 := Int32.le_toInt x
  have h2 := Int32.toInt_lt x
  rw [Int32.toInt_toInt64, lZ_toInt (by omega) (by omega)]
theorem lZ_l2i (v : Int) : (lZ v).toInt32 = iZ v := Int64.toInt32_ofInt
theorem lZ_le {a b : Int} (a1 : -9223372036854775808 ≤ a) (a2 : a < 9223372036854775808) (b1 : -9223372036854775808 ≤ b) (b2 : b < 9223372036854775808) : lZ a ≤ lZ b ↔ a ≤ b := by rw [Int64.le_iff_toInt_le, lZ_toInt a1 a2, lZ_toInt b1 b2]
theorem lZ_lt {a b : Int} (a1 : -9223372036854775808 ≤ a) (a2 : a < 9223372036854775808) (b1 : -9223372036854775808 ≤ b) (b2 : b < 9223372036854775808) : lZ a < lZ b ↔ a < b := by rw [Int64.lt_iff_toInt_lt, lZ_toInt a1 a2, lZ_toInt b1 b2]
theorem lZ_eq {a b : Int} (a1 : -9223372036854775808 ≤ a) (a2 : a < 9223372036854775808) (b1 : -9223372036854775808 ≤ b) (b2 : b < 9223372036854775808) : lZ a = lZ b ↔ a = b := ⟨fun h => by have := congrArg Int64.toInt h; rwa [lZ_toInt a1 a2, lZ_toInt b1 b2] at this, fun h => by rw [h]⟩
theorem iZ_le {a b : Int} (a1 : -2147483648 ≤ a) (a2 : a < 2147483648) (b1 : -2147483648 ≤ b) (b2 : b < 2147483648) : iZ a ≤ iZ b ↔ a ≤ b := by rw [Int32.le_iff_toInt_le, iZ_toInt a1 a2, iZ_toInt b1 b2]
theorem iZ_lt {a b : Int} (a1 : -2147483648 ≤ a) (a2 : a < 2147483648) (b1 : -2147483648 ≤ b) (b2 : b < 2147483648) : iZ a < iZ b ↔ a < b := by rw [Int32.lt_iff_toInt_lt, iZ_toInt a1 a2, iZ_toInt b1 b2]
theorem iZ_eq {a b : Int} (a1 : -2147483648 ≤ a) (a2 : a < 2147483648) (b1 : -2147483648 ≤ b) (b2 : b < 2147483648) : iZ a = iZ b ↔ a = b := ⟨fun h => by have := congrArg Int32.toInt h; rwa [iZ_toInt a1 a2, iZ_toInt b1 b2] at this, fun h => by rw [h]⟩
/-- only the lowest bits are left -/
theorem lZ_and (v : Int) {k : Nat} (hk : k < 63) : lZ v &&& lN (2 ^ k - 1) = lN (v % 2 ^ k).toNat := by
  have hp : 2 ^ k < 2 ^ 63 := Nat.pow_lt_pow_right (by decide) hk
  apply Int64.toBitVec.inj
  have h1 : (lZ v).toBitVec = BitVec.ofInt 64 v := rfl
  have h2 : (lN (2 ^ k - 1)).toBitVec = BitVec.ofNat 64 (2 ^ k - 1) := Int64.toBitVec_ofNat'
  have h3 : (lN (v % 2 ^ k).toNat).toBitVec = BitVec.ofNat 64 (v % 2 ^ k).toNat := Int64.toBitVec_ofNat'
  rw [Int64.toBitVec_and, h1, h2, h3]
  apply BitVec.eq_of_toNat_eq
  have hpi : (0 : Int) < 2 ^ k := Int.pow_pos (by decide)
  have hpc : ((2 ^ k : Nat) : Int) = 2 ^ k := by norm_cast
  have hm0 := Int.emod_nonneg v (show (2 ^ k : Int) ≠ 0 by omega)
  have hm1 := Int.emod_lt_of_pos v hpi
  rw [BitVec.toNat_and, BitVec.toNat_ofInt, BitVec.toNat_ofNat, BitVec.toNat_ofNat, Nat.mod_eq_of_lt (show 2 ^ k - 1 < 2 ^ 64 by omega), Nat.mod_eq_of_lt (show (v % 2 ^ k).toNat < 2 ^ 64 by omega), Nat.and_two_pow_sub_one_eq_mod]
  have h64 := Int.emod_nonneg v (show ((2 ^ 64 : Nat) : Int) ≠ 0 by decide)
  have hd : ((2 ^ k : Nat) : Int) ∣ ((2 ^ 64 : Nat) : Int) := Int.natCast_dvd_natCast.mpr (Nat.pow_dvd_pow 2 (by omega))
  have e : (((v % ((2 ^ 64 : Nat) : Int)).toNat % 2 ^ k : Nat) : Int) = v % 2 ^ k := by
    rw [Int.natCast_emod, Int.toNat_of_nonneg h64, Int.emod_emod_of_dvd v hd, hpc]
  rw [← e, Int.toNat_natCast]
theorem iZ_and (v : Int) {k : Nat} (hk : k < 31) : iZ v &&& nI (2 ^ k - 1) = nI (v % 2 ^ k).toNat := by
  have hp : 2 ^ k < 2 ^ 31 := Nat.pow_lt_pow_right (by decide) hk
  apply Int32.toBitVec.inj
  have h1 : (iZ v).toBitVec = BitVec.ofInt 32 v := rfl
  have h2 : (nI (2 ^ k - 1)).toBitVec = BitVec.ofNat 32 (2 ^ k - 1) := Int32.toBitVec_ofNat'
  have h3 : (nI (v % 2 ^ k).toNat).toBitVec = BitVec.ofNat 32 (v % 2 ^ k).toNat := Int32.toBitVec_ofNat'
  rw [Int32.toBitVec_and, h1, h2, h3]
  apply BitVec.eq_of_toNat_eq
  have hpi : (0 : Int) < 2 ^ k := Int.pow_pos (by decide)
  have hpc : ((2 ^ k : Nat) : Int) = 2 ^ k := by norm_cast
  have hm0 := Int.emod_nonneg v (show (2 ^ k : Int) ≠ 0 by omega)
  have hm1 := Int.emod_lt_of_pos v hpi
  rw [BitVec.toNat_and, BitVec.toNat_ofInt, BitVec.toNat_ofNat, BitVec.toNat_ofNat, Nat.mod_eq_of_lt (show 2 ^ k - 1 < 2 ^ 32 by omega), Nat.mod_eq_of_lt (show (v % 2 ^ k).toNat < 2 ^ 32 by omega), Nat.and_two_pow_sub_one_eq_mod]
  have h64 := Int.emod_nonneg v (show ((2 ^ 32 : Nat) : Int) ≠ 0 by decide)
  have hd : ((2 ^ k : Nat) : Int) ∣ ((2 ^ 32 : Nat) : Int) := Int.natCast_dvd_natCast.mpr (Nat.pow_dvd_pow 2 (by omega))
  have e : (((v % ((2 ^ 32 : Nat) : Int)).toNat % 2 ^ k : Nat) : Int) = v % 2 ^ k := by
    rw [Int.natCast_emod, Int.toNat_of_nonneg h64, Int.emod_emod_of_dvd v hd, hpc]
  rw [← e, Int.toNat_natCast]
theorem lZ_shr {v : Int} {s : Nat} (h1 : -9223372036854775808 ≤ v) (h2 : v < 9223372036854775808) (hs : s < 64) : lZ v >>> ((nI s).toInt64 &&& 63) = lZ (v / 2 ^ s) := by
  rw [lN_i2l (by omega), show (63 : Int64) = lN (2 ^ 6 - 1) from rfl, lN_and (by omega) (by decide), Nat.mod_eq_of_lt (by omega)]
  apply Int64.toInt.inj
  have hp : (0 : Int) < 2 ^ s := Int.pow_pos (by decide)
  have e1 : (lZ v >>> lN s).toInt = v >>> s := by
    show ((lZ v).toBitVec.sshiftRight' (((lN s).toBitVec).smod 64)).toInt = _
    have h4 : ((lN s).toBitVec).smod 64 = BitVec.ofNat 64 s := by
      rw [show (lN s).toBitVec = BitVec.ofNat 64 s from Int64.toBitVec_ofNat']
      apply BitVec.eq_of_toInt_eq
      have e1 : (BitVec.ofNat 64 s).toInt = (s : Int) := by
        rw [BitVec.toInt_eq_toNat_of_msb (by rw [BitVec.msb_eq_false_iff_two_mul_lt, BitVec.toNat_ofNat]; omega), BitVec.toNat_ofNat, Nat.mod_eq_of_lt (by omega)]
      rw [BitVec.toInt_smod, e1, show (64 : BitVec 64).toInt = 64 from rfl, Int.fmod_eq_emod_of_nonneg _ (by decide), Int.emod_eq_of_lt (by omega) (by omega)]
    rw [h4, BitVec.sshiftRight_eq', BitVec.toInt_sshiftRight, BitVec.toNat_ofNat, Nat.mod_eq_of_lt (by omega)]
    show (lZ v).toInt >>> s = _
    rw [lZ_toInt h1 h2]
  have e2 : v >>> s = v / 2 ^ s := by rw [Int.shiftRight_eq_div_pow]; norm_cast
  rw [e1, e2]
  rw [lZ_toInt ?_ ?_]
  · rw [Int.le_ediv_iff_mul_le hp]
    have : (1 : Int) ≤ 2 ^ s := hp
    have h3 := Int.mul_le_mul_of_nonpos_left (a := -9223372036854775808) (by decide) this
    omega
  · rcases Int.lt_or_le v 0 with z | z
    · have := Int.ediv_neg_of_neg_of_pos z hp; omega
    · have := Int.ediv_le_self (2 ^ s) z; omega
theorem iZ_shr {v : Int} {s : Nat} (h1 : -2147483648 ≤ v) (h2 : v < 2147483648) (hs : s < 32) : iZ v >>> (nI s &&& 31) = iZ (v / 2 ^ s) := by
  rw [show (31 : Int32) = nI (2 ^ 5 - 1) from rfl, pk_andN (by omega) 5 (by decide), Nat.mod_eq_of_lt (by omega)]
  apply Int32.toInt.inj
  have hp : (0 : Int) < 2 ^ s := Int.pow_pos (by decide)
  have e1 : (iZ v >>> nI s).toInt = v >>> s := by
    rw [pk_shr (iZ v) (nI s) s, iZ_toInt h1 h2]
    rw [show (nI s).toBitVec = BitVec.ofNat 32 s from Int32.toBitVec_ofNat']
    have h4 : (BitVec.ofNat 32 s).smod 32 = BitVec.ofNat 32 s := by
      apply BitVec.eq_of_toInt_eq
      have e1 : (BitVec.ofNat 32 s).toInt = (s : Int) := by
        rw [BitVec.toInt_eq_toNat_of_msb (by rw [BitVec.msb_eq_false_iff_two_mul_lt, BitVec.toNat_ofNat]; omega), BitVec.toNat_ofNat, Nat.mod_eq_of_lt (by omega)]
      rw [BitVec.toInt_smod, e1, show (32 : BitVec 32).toInt = 32 from rfl, Int.fmod_eq_emod_of_nonneg _ (by decide), Int.emod_eq_of_lt (by omega) (by omega)]
    rw [h4, BitVec.toNat_ofNat, Nat.mod_eq_of_lt (by omega)]
  have e2 : v >>> s = v / 2 ^ s := by rw [Int.shiftRight_eq_div_pow]; norm_cast
  rw [e1, e2]
  rw [iZ_toInt ?_ ?_]
  · rw [Int.le_ediv_iff_mul_le hp]
    have : (1 : Int) ≤ 2 ^ s := hp
    have h3 := Int.mul_le_mul_of_nonpos_left (a := -2147483648) (by decide) this
    omega
  · rcases Int.lt_or_le v 0 with z | z
    · have := Int.ediv_neg_of_neg_of_pos z hp; omega
    · have := Int.ediv_le_self (2 ^ s) z; omega
section ACZ
variable {md : aMd} {E : aE} {h : aH} {pc : Nat} {lv : List (Nat × Value)} {st : List Value} {bc bs : Nat} {Q : Option Value → aH → Prop}
theorem zAdd {x y : Int32} {a b : Int} (hd : decode md.2.1 pc = .ok (.iadd, 1)) (hx : x = iZ a) (hy : y = iZ b) (k : aX md E h (pc + 1) lv (.int (iZ (a + b)) :: st) bc bs Q) : aX md E h pc lv (.int y :: .int x :: st) bc bs Q := aX_iadd hd (by rw [hx, hy, iZ_add]; exact k)
theorem zSub {x y : Int32} {a b : Int} (hd : decode md.2.1 pc = .ok (.isub, 1)) (hx : x = iZ a) (hy : y = iZ b) (k : aX md E h (pc + 1) lv (.int (iZ (a - b)) :: st) bc bs Q) : aX md E h pc lv (.int y :: .int x :: st) bc bs Q := aX_isub hd (by rw [hx, hy, iZ_sub]; exact k)
theorem zMul {x y : Int32} {a b : Int} (hd : decode md.2.1 pc = .ok (.imul, 1)) (hx : x = iZ a) (hy : y = iZ b) (k : aX md E h (pc + 1) lv (.int (iZ (a * b)) :: st) bc bs Q) : aX md E h pc lv (.int y :: .int x :: st) bc bs Q := aX_imul hd (by rw [hx, hy, iZ_mul]; exact k)
theorem zNeg {x : Int32} {a : Int} (hd : decode md.2.1 pc = .ok (.ineg, 1)) (hx : x = iZ a) (k : aX md E h (pc + 1) lv (.int (iZ (-a)) :: st) bc bs Q) : aX md E h pc lv (.int x :: st) bc bs Q := aX_ineg hd (by rw [hx, iZ_neg]; exact k)
theorem yAdd {x y : Int64} {a b : Int} (hd : decode md.2.1 pc = .ok (.ladd, 1)) (hx : x = lZ a) (hy : y = lZ b) (k : aX md E h (pc + 1) lv (.long (lZ (a + b)) :: st) bc bs Q) : aX md E h pc lv (.long y :: .long x :: st) bc bs Q := aX_ladd hd (by rw [hx, hy, lZ_add]; exact k)
theorem ySub {x y : Int64} {a b : Int} (hd : decode md.2.1 pc = .ok (.lsub, 1)) (hx : x = lZ a) (hy : y = lZ b) (k : aX md E h (pc + 1) lv (.long (lZ (a - b)) :: st) bc bs Q) : aX md E h pc lv (.long y :: .long x :: st) bc bs Q := aX_lsub hd (by rw [hx, hy, lZ_sub]; exact k)
theorem yMul {x y : Int64} {a b : Int} (hd : decode md.2.1 pc = .ok (.lmul, 1)) (hx : x = lZ a) (hy : y = lZ b) (k : aX md E h (pc + 1) lv (.long (lZ (a * b)) :: st) bc bs Q) : aX md E h pc lv (.long y :: .long x :: st) bc bs Q := aX_lmul hd (by rw [hx, hy, lZ_mul]; exact k)
theorem yI2l {v : Int} (hd : decode md.2.1 pc = .ok (.i2l, 1)) (h1 : -2147483648 ≤ v) (h2 : v < 2147483648) (k : aX md E h (pc + 1) lv (.long (lZ v) :: st) bc bs Q) : aX md E h pc lv (.int (iZ v) :: st) bc bs Q := aX_i2l hd (by rw [lZ_i2l h1 h2]; exact k)
theorem yL2i {v : Int} (hd : decode md.2.1 pc = .ok (.l2i, 1)) (k : aX md E h (pc + 1) lv (.int (iZ v) :: st) bc bs Q) : aX md E h pc lv (.long (lZ v) :: st) bc bs Q := aX_l2i hd (by rw [lZ_l2i]; exact k)
theorem yShr {v : Int} {s : Nat} (hd : decode md.2.1 pc = .ok (.lshr, 1)) (h1 : -9223372036854775808 ≤ v) (h2 : v < 9223372036854775808) (hs : s < 64) (k : aX md E h (pc + 1) lv (.long (lZ (v / 2 ^ s)) :: st) bc bs Q) : aX md E h pc lv (.int (nI s) :: .long (lZ v) :: st) bc bs Q := aX_lshr hd (by rw [lZ_shr h1 h2 hs]; exact k)
theorem zShr {v : Int} {s : Nat} (hd : decode md.2.1 pc = .ok (.ishr, 1)) (h1 : -2147483648 ≤ v) (h2 : v < 2147483648) (hs : s < 32) (k : aX md E h (pc + 1) lv (.int (iZ (v / 2 ^ s)) :: st) bc bs Q) : aX md E h pc lv (.int (nI s) :: .int (iZ v) :: st) bc bs Q := aX_ishr hd (by rw [iZ_shr h1 h2 hs]; exact k)
theorem yAnd {v : Int} {b : Int64} (m : Nat) (hd : decode md.2.1 pc = .ok (.land, 1)) (hb : b = lN (2 ^ m - 1)) (hm : m < 63) (k : aX md E h (pc + 1) lv (.long (lN (v % 2 ^ m).toNat) :: st) bc bs Q) : aX md E h pc lv (.long b :: .long (lZ v) :: st) bc bs Q := aX_land hd (by rw [hb, lZ_and v hm]; exact k)
theorem zAnd {v : Int} {b : Int32} (m : Nat) (hd : decode md.2.1 pc = .ok (.iand, 1)) (hb : b = nI (2 ^ m - 1)) (hm : m < 31) (k : aX md E h (pc + 1) lv (.int (nI (v % 2 ^ m).toNat) :: st) bc bs Q) : aX md E h pc lv (.int b :: .int (iZ v) :: st) bc bs Q := aX_iand hd (by rw [hb, iZ_and v hm]; exact k)
end ACZ
