/-! LONGS AS NUMBERS -/
theorem lN_i2l {n : Nat} (h : n < 2 ^ 31) : (nI n).toInt64 = lN n := by
  apply Int64.toInt.inj
  rw [Int32.toInt_toInt64, nI_toInt h, pk_lT (by omega)]
theorem lN_l2i (n : Nat) : (lN n).toInt32 = nI n := Int64.toInt32_ofNat
theorem lN_ne0 {n : Nat} (h0 : 0 < n) (h : n < 2 ^ 63) : lN n ≠ 0 := fun z => by
  have := congrArg Int64.toInt z
  rw [pk_lT h] at this
  simp at this
  omega
theorem lN_shr {a s : Nat} (h : a < 2 ^ 63) (hs : s < 64) : lN a >>> lN s = lN (a / 2 ^ s) := by
  apply Int64.toBitVec.inj
  have h1 : (lN a).toBitVec = BitVec.ofNat 64 a := Int64.toBitVec_ofNat'
  have h2 : (lN s).toBitVec = BitVec.ofNat 64 s := Int64.toBitVec_ofNat'
  have h3 : (lN (a / 2 ^ s)).toBitVec = BitVec.ofNat 64 (a / 2 ^ s) := Int64.toBitVec_ofNat'
  have hl : a / 2 ^ s ≤ a := Nat.div_le_self ..
  rw [Int64.toBitVec_shiftRight, h1, h2, h3]
  have h4 : ((BitVec.ofNat 64 s).smod 64) = BitVec.ofNat 64 s := by
    apply BitVec.eq_of_toInt_eq
    have e1 : (BitVec.ofNat 64 s).toInt = (s : Int) := by
      rw [BitVec.toInt_eq_toNat_of_msb (by rw [BitVec.msb_eq_false_iff_two_mul_lt, BitVec.toNat_ofNat]; omega), BitVec.toNat_ofNat, Nat.mod_eq_of_lt (by omega)]
    rw [BitVec.toInt_smod, e1, show (64 : BitVec 64).toInt = 64 from rfl, Int.fmod_eq_emod_of_nonneg _ (by decide), Int.emod_eq_of_lt (by omega) (by omega)]
  rw [h4]
  apply BitVec.eq_of_toNat_eq
  rw [BitVec.sshiftRight_eq', BitVec.sshiftRight_eq_of_msb_false (by rw [BitVec.msb_eq_false_iff_two_mul_lt, BitVec.toNat_ofNat]; omega)]
  rw [BitVec.toNat_ushiftRight, BitVec.toNat_ofNat, BitVec.toNat_ofNat, BitVec.toNat_ofNat, Nat.mod_eq_of_lt (show a < 2 ^ 64 by omega), Nat.mod_eq_of_lt (show s < 2 ^ 64 by omega), Nat.mod_eq_of_lt (by omega), Nat.shiftRight_eq_div_pow]
theorem lN_and {a k : Nat} (h : a < 2 ^ 63) (hk : k < 63) : lN a &&& lN (2 ^ k - 1) = lN (a % 2 ^ k) := by
  have hp : 2 ^ k < 2 ^ 63 := Nat.pow_lt_pow_right (by decide) hk
  apply Int64.toBitVec.inj
  have h1 : (lN a).toBitVec = BitVec.ofNat 64 a := Int64.toBitVec_ofNat'
  have h2 : (lN (2 ^ k - 1)).toBitVec = BitVec.ofNat 64 (2 ^ k - 1) := Int64.toBitVec_ofNat'
  have h3 : (lN (a % 2 ^ k)).toBitVec = BitVec.ofNat 64 (a % 2 ^ k) := Int64.toBitVec_ofNat'
  have hl : a % 2 ^ k ≤ a := Nat.mod_le ..
  rw [Int64.toBitVec_and, h1, h2, h3]
  apply BitVec.eq_of_toNat_eq
  rw [BitVec.toNat_and, BitVec.toNat_ofNat, BitVec.toNat_ofNat, BitVec.toNat_ofNat, Nat.mod_eq_of_lt (show a < 2 ^ 64 by omega), Nat.mod_eq_of_lt (show 2 ^ k - 1 < 2 ^ 64 by omega), Nat.mod_eq_of_lt (show a % 2 ^ k < 2 ^ 64 by omega), Nat.and_two_pow_sub_one_eq_mod]
section ACL
variable {md : aMd} {E : aE} {h : aH} {pc : Nat} {lv : List (Nat × Value)} {st : List Value} {bc bs : Nat} {Q : Option Value → aH → Prop}
theorem lIf_ge {x y : Int64} {off : Int} {tgt : Nat} (hd : decode md.2.1 pc = .ok (.ifCond .ge off, 3)) (ht : (pc : Int) + off = (tgt : Int)) (kt : y ≤ x → aX md E h tgt lv st bc bs Q) (kf : ¬ y ≤ x → aX md E h (pc + 3) lv st bc bs Q) : aX md E h pc lv (.int (lg_cmp x y) :: st) bc bs Q := aX_if_ge hd ht (fun c => kt ((lg_cmp_ge x y).mp c)) (fun c => kf (fun z => c ((lg_cmp_ge x y).mpr z)))
theorem lIf_le {x y : Int64} {off : Int} {tgt : Nat} (hd : decode md.2.1 pc = .ok (.ifCond .le off, 3)) (ht : (pc : Int) + off = (tgt : Int)) (kt : x ≤ y → aX md E h tgt lv st bc bs Q) (kf : ¬ x ≤ y → aX md E h (pc + 3) lv st bc bs Q) : aX md E h pc lv (.int (lg_cmp x y) :: st) bc bs Q := aX_if_le hd ht (fun c => kt ((lg_cmp_le x y).mp c)) (fun c => kf (fun z => c ((lg_cmp_le x y).mpr z)))
theorem lIf_gt {x y : Int64} {off : Int} {tgt : Nat} (hd : decode md.2.1 pc = .ok (.ifCond .gt off, 3)) (ht : (pc : Int) + off = (tgt : Int)) (kt : y < x → aX md E h tgt lv st bc bs Q) (kf : ¬ y < x → aX md E h (pc + 3) lv st bc bs Q) : aX md E h pc lv (.int (lg_cmp x y) :: st) bc bs Q := aX_if_gt hd ht (fun c => kt ((lg_cmp_gt x y).mp c)) (fun c => kf (fun z => c ((lg_cmp_gt x y).mpr z)))
theorem lIf_lt {x y : Int64} {off : Int} {tgt : Nat} (hd : decode md.2.1 pc = .ok (.ifCond .lt off, 3)) (ht : (pc : Int) + off = (tgt : Int)) (kt : x < y → aX md E h tgt lv st bc bs Q) (kf : ¬ x < y → aX md E h (pc + 3) lv st bc bs Q) : aX md E h pc lv (.int (lg_cmp x y) :: st) bc bs Q := aX_if_lt hd ht (fun c => kt ((lg_cmp_lt x y).mp c)) (fun c => kf (fun z => c ((lg_cmp_lt x y).mpr z)))
theorem lIf_eq {x y : Int64} {off : Int} {tgt : Nat} (hd : decode md.2.1 pc = .ok (.ifCond .eq off, 3)) (ht : (pc : Int) + off = (tgt : Int)) (kt : x = y → aX md E h tgt lv st bc bs Q) (kf : ¬ x = y → aX md E h (pc + 3) lv st bc bs Q) : aX md E h pc lv (.int (lg_cmp x y) :: st) bc bs Q := aX_if_eq hd ht (fun c => kt ((lg_cmp_eq x y).mp c)) (fun c => kf (fun z => c ((lg_cmp_eq x y).mpr z)))
theorem lIf_ne {x y : Int64} {off : Int} {tgt : Nat} (hd : decode md.2.1 pc = .ok (.ifCond .ne off, 3)) (ht : (pc : Int) + off = (tgt : Int)) (kt : ¬ x = y → aX md E h tgt lv st bc bs Q) (kf : x = y → aX md E h (pc + 3) lv st bc bs Q) : aX md E h pc lv (.int (lg_cmp x y) :: st) bc bs Q := aX_if_ne hd ht (fun c => kt (fun z => c ((lg_cmp_eq x y).mpr z))) (fun c => kf ((lg_cmp_eq x y).mp c))
theorem kIf_ge {x y : Nat} {off : Int} {tgt : Nat} (hd : decode md.2.1 pc = .ok (.ifCond .ge off, 3)) (ht : (pc : Int) + off = (tgt : Int)) (hx : x < 2 ^ 63) (hy : y < 2 ^ 63) (kt : y ≤ x → aX md E h tgt lv st bc bs Q) (kf : x < y → aX md E h (pc + 3) lv st bc bs Q) : aX md E h pc lv (.int (lg_cmp (lN x) (lN y)) :: st) bc bs Q := lIf_ge hd ht (fun c => kt ((pk_lLE hy hx).mp c)) (fun c => kf (Nat.not_le.mp (fun z => c ((pk_lLE hy hx).mpr z))))
theorem kIf_le {x y : Nat} {off : Int} {tgt : Nat} (hd : decode md.2.1 pc = .ok (.ifCond .le off, 3)) (ht : (pc : Int) + off = (tgt : Int)) (hx : x < 2 ^ 63) (hy : y < 2 ^ 63) (kt : x ≤ y → aX md E h tgt lv st bc bs Q) (kf : y < x → aX md E h (pc + 3) lv st bc bs Q) : aX md E h pc lv (.int (lg_cmp (lN x) (lN y)) :: st) bc bs Q := lIf_le hd ht (fun c => kt ((pk_lLE hx hy).mp c)) (fun c => kf (Nat.not_le.mp (fun z => c ((pk_lLE hx hy).mpr z))))
theorem kIf_gt {x y : Nat} {off : Int} {tgt : Nat} (hd : decode md.2.1 pc = .ok (.ifCond .gt off, 3)) (ht : (pc : Int) + off = (tgt : Int)) (hx : x < 2 ^ 63) (hy : y < 2 ^ 63) (kt : y < x → aX md E h tgt lv st bc bs Q) (kf : x ≤ y → aX md E h (pc + 3) lv st bc bs Q) : aX md E h pc lv (.int (lg_cmp (lN x) (lN y)) :: st) bc bs Q := lIf_gt hd ht (fun c => kt ((pk_lLT hy hx).mp c)) (fun c => kf (Nat.not_lt.mp (fun z => c ((pk_lLT hy hx).mpr z))))
theorem kIf_lt {x y : Nat} {off : Int} {tgt : Nat} (hd : decode md.2.1 pc = .ok (.ifCond .lt off, 3)) (ht : (pc : Int) + off = (tgt : Int)) (hx : x < 2 ^ 63) (hy : y < 2 ^ 63) (kt : x < y → aX md E h tgt lv st bc bs Q) (kf : y ≤ x → aX md E h (pc + 3) lv st bc bs Q) : aX md E h pc lv (.int (lg_cmp (lN x) (lN y)) :: st) bc bs Q := lIf_lt hd ht (fun c => kt ((pk_lLT hx hy).mp c)) (fun c => kf (Nat.not_lt.mp (fun z => c ((pk_lLT hx hy).mpr z))))
theorem kIf_eq {x y : Nat} {off : Int} {tgt : Nat} (hd : decode md.2.1 pc = .ok (.ifCond .eq off, 3)) (ht : (pc : Int) + off = (tgt : Int)) (hx : x < 2 ^ 63) (hy : y < 2 ^ 63) (kt : x = y → aX md E h tgt lv st bc bs Q) (kf : x ≠ y → aX md E h (pc + 3) lv st bc bs Q) : aX md E h pc lv (.int (lg_cmp (lN x) (lN y)) :: st) bc bs Q := lIf_eq hd ht (fun c => kt ((pk_lEQ hx hy).mp c)) (fun c => kf (fun z => c ((pk_lEQ hx hy).mpr z)))
theorem kIf_ne {x y : Nat} {off : Int} {tgt : Nat} (hd : decode md.2.1 pc = .ok (.ifCond .ne off, 3)) (ht : (pc : Int) + off = (tgt : Int)) (hx : x < 2 ^ 63) (hy : y < 2 ^ 63) (kt : x ≠ y → aX md E h tgt lv st bc bs Q) (kf : x = y → aX md E h (pc + 3) lv st bc bs Q) : aX md E h pc lv (.int (lg_cmp (lN x) (lN y)) :: st) bc bs Q := lIf_ne hd ht (fun c => kt (fun z => c ((pk_lEQ hx hy).mpr z))) (fun c => kf ((pk_lEQ hx hy).mp c))
theorem kAdd {a b : Nat} (hd : decode md.2.1 pc = .ok (.ladd, 1)) (k : aX md E h (pc + 1) lv (.long (lN (a + b)) :: st) bc bs Q) : aX md E h pc lv (.long (lN b) :: .long (lN a) :: st) bc bs Q := aX_ladd hd (by rw [lN_add]; exact k)
theorem kMul {a b : Nat} (hd : decode md.2.1 pc = .ok (.lmul, 1)) (k : aX md E h (pc + 1) lv (.long (lN (a * b)) :: st) bc bs Q) : aX md E h pc lv (.long (lN b) :: .long (lN a) :: st) bc bs Q := aX_lmul hd (by rw [lN_mul]; exact k)
theorem kSub {a b : Nat} (hd : decode md.2.1 pc = .ok (.lsub, 1)) (hb : b ≤ a) (k : aX md E h (pc + 1) lv (.long (lN (a - b)) :: st) bc bs Q) : aX md E h pc lv (.long (lN b) :: .long (lN a) :: st) bc bs Q := aX_lsub hd (by rw [lN_sub hb]; exact k)
theorem kDiv {a b : Nat} (hd : decode md.2.1 pc = .ok (.ldiv, 1)) (ha : a < 2 ^ 63) (h0 : 0 < b) (hb : b < 2 ^ 63) (k : aX md E h (pc + 1) lv (.long (lN (a / b)) :: st) bc bs Q) : aX md E h pc lv (.long (lN b) :: .long (lN a) :: st) bc bs Q := aX_ldiv hd (lN_ne0 h0 hb) (by rw [pk_lDiv ha h0 hb]; exact k)
theorem kRem {a b : Nat} (hd : decode md.2.1 pc = .ok (.lrem, 1)) (ha : a < 2 ^ 63) (h0 : 0 < b) (hb : b < 2 ^ 63) (k : aX md E h (pc + 1) lv (.long (lN (a % b)) :: st) bc bs Q) : aX md E h pc lv (.long (lN b) :: .long (lN a) :: st) bc bs Q := aX_lrem hd (lN_ne0 h0 hb) (by rw [pk_lRem ha h0 hb]; exact k)
theorem kI2l {a : Nat} (hd : decode md.2.1 pc = .ok (.i2l, 1)) (ha : a < 2 ^ 31) (k : aX md E h (pc + 1) lv (.long (lN a) :: st) bc bs Q) : aX md E h pc lv (.int (nI a) :: st) bc bs Q := aX_i2l hd (by rw [lN_i2l ha]; exact k)
theorem kL2i {a : Nat} (hd : decode md.2.1 pc = .ok (.l2i, 1)) (k : aX md E h (pc + 1) lv (.int (nI a) :: st) bc bs Q) : aX md E h pc lv (.long (lN a) :: st) bc bs Q := aX_l2i hd (by rw [lN_l2i]; exact k)
theorem kShr {a s : Nat} (hd : decode md.2.1 pc = .ok (.lshr, 1)) (ha : a < 2 ^ 63) (hs : s < 64) (k : aX md E h (pc + 1) lv (.long (lN (a / 2 ^ s)) :: st) bc bs Q) : aX md E h pc lv (.int (nI s) :: .long (lN a) :: st) bc bs Q := aX_lshr hd (by
  rw [lN_i2l (by omega), show (63 : Int64) = lN (2 ^ 6 - 1) from rfl, lN_and (by omega) (by decide), Nat.mod_eq_of_lt (by omega), lN_shr ha hs]; exact k)
theorem kAnd {a j : Nat} {b : Int64} (m : Nat) (hd : decode md.2.1 pc = .ok (.land, 1)) (hb : b = lN (2 ^ m - 1)) (hm : m < 63) (ha : a < 2 ^ 63) (hj : j = a % 2 ^ m) (k : aX md E h (pc + 1) lv (.long (lN j) :: st) bc bs Q) : aX md E h pc lv (.long b :: .long (lN a) :: st) bc bs Q := aX_land hd (by subst hb hj; rw [lN_and ha hm]; exact k)
end ACL
