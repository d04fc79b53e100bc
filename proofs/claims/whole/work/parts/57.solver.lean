/-! THE SOLVER: longs by a prime -/
theorem lZ_div {a b : Int} (a1 : -9223372036854775808 ≤ a) (a2 : a < 9223372036854775808) (b1 : 0 < b) (b2 : b < 9223372036854775808) : lZ a / lZ b = lZ (a.tdiv b) := by
  have h : (a.tdiv b).natAbs ≤ a.natAbs := by rw [Int.natAbs_tdiv]; exact Nat.div_le_self _ _
  have h2 : b = 1 ∨ (a.tdiv b).natAbs < 9223372036854775808 := by
    by_cases e : b = 1
    · exact Or.inl e
    · right
      rw [Int.natAbs_tdiv]
      show a.natAbs / b.natAbs < _
      have : a.natAbs / b.natAbs ≤ a.natAbs / 2 := Nat.div_le_div_left (by omega) (by decide)
      omega
  have h3 : -9223372036854775808 ≤ a.tdiv b ∧ a.tdiv b < 9223372036854775808 := by
    rcases h2 with e | e
    · rw [e, Int.tdiv_one]; omega
    · omega
  refine Int64.toInt_inj.mp ?_
  rw [Int64.toInt_div, lZ_toInt a1 a2, lZ_toInt (by omega) b2, lZ_toInt h3.1 h3.2]
  exact Int.bmod_eq_of_le (by omega) (by omega)
theorem lZ_rem {a b : Int} (a1 : -9223372036854775808 ≤ a) (a2 : a < 9223372036854775808) (b1 : 0 < b) (b2 : b < 9223372036854775808) : lZ a - lZ a / lZ b * lZ b = lZ (a.tmod b) := by
  rw [lZ_div a1 a2 b1 b2, lZ_mul, lZ_sub, Int.tmod_def, Int.mul_comm]
theorem lZ_ne0 {b : Int} (b1 : 0 < b) (b2 : b < 9223372036854775808) : ¬ lZ b = 0 := fun h => by
  have : lZ b = lZ 0 := h
  rw [lZ_eq (by omega) b2 (by decide) (by decide)] at this
  omega
theorem yRem {md : aMd} {E : aE} {h : aH} {pc : Nat} {lv : List (Nat × Value)} {st : List Value} {bc bs : Nat} {Q : Option Value → aH → Prop} {x y : Int64} {a b : Int} (hd : decode md.2.1 pc = .ok (.lrem, 1)) (hx : x = lZ a) (hy : y = lZ b) (a1 : -9223372036854775808 ≤ a) (a2 : a < 9223372036854775808) (b1 : 0 < b) (b2 : b < 9223372036854775808) (k : aX md E h (pc + 1) lv (.long (lZ (a.tmod b)) :: st) bc bs Q) : aX md E h pc lv (.long y :: .long x :: st) bc bs Q :=
  aX_lrem hd (by rw [hy]; exact lZ_ne0 b1 b2) (by rw [hx, hy, lZ_rem a1 a2 b1 b2]; exact k)
theorem lN_pos {p : Nat} (h : p < 2 ^ 63) : ¬ lN p < 0 := by
  have : (lN p).toInt = p := by rw [kZ, lZ_toInt (by omega) (by omega)]
  rw [Int64.lt_iff_toInt_lt, this]
  show ¬ (p : Int) < 0
  omega
theorem lx_sign (a b : Int64) : (0 ≤ a ^^^ b) ↔ (a < 0 ↔ b < 0) := by
  have hm : ∀ x : Int64, x.toBitVec.msb = decide (x < 0) := fun x => by
    rw [BitVec.msb_eq_toInt]
    have : x.toBitVec.toInt = x.toInt := rfl
    rw [this]
    have h2 : (x < 0) ↔ x.toInt < 0 := by rw [Int64.lt_iff_toInt_lt]; rfl
    simp [h2]
  have h1 := hm (a ^^^ b)
  rw [Int64.toBitVec_xor, BitVec.msb_xor, hm a, hm b] at h1
  have h2 : (0 ≤ a ^^^ b) ↔ ¬ (a ^^^ b < 0) := by rw [Int64.not_lt]
  rw [h2]
  by_cases e1 : a < 0 <;> by_cases e2 : b < 0 <;> by_cases e3 : a ^^^ b < 0 <;> simp [e1, e2, e3] at h1 ⊢
theorem emod_neg' {v p : Int} (hp : 0 < p) (hv : v < 0) : v % p = if v.tmod p = 0 then 0 else v.tmod p + p := by
  have h1 := Int.mul_tdiv_add_tmod v p
  have h2 : v.tmod p ≤ 0 := by
    have := Int.tmod_nonneg p (show 0 ≤ -v by omega)
    rw [Int.neg_tmod] at this; omega
  have h3 : - p < v.tmod p := by
    have := Int.tmod_lt_of_pos (-v) hp
    rw [Int.neg_tmod] at this; omega
  generalize v.tmod p = r at *
  split
  · rename_i e
    rw [e] at h1
    rw [← h1, Int.add_zero, Int.mul_emod_right]
  · have e : v = (r + p) + p * (v.tdiv p - 1) := by rw [Int.mul_sub]; omega
    rw [e, Int.add_mul_emod_self_left, Int.emod_eq_of_lt (by omega) (by omega)]
set_option maxHeartbeats 1000000 in
theorem c_fmodL {h : aH} {v : Int} {p : Nat} (hv1 : -9223372036854775808 ≤ v) (hv2 : v < 9223372036854775808) (hp : 0 < p) (hp2 : p < 2 ^ 63) : aMp mJ9_floorMod_f86c9 [.long (lZ v), .long (lN p)] h (.long (lN (v % p).toNat)) := by
  refine aM_of plJ9_floorMod_f86c9 (Nat.le_of_ble_eq_true rfl) ?_
  refine aX_lload_n dJ9_floorMod_f86c9_0 rfl ?_
  refine aX_lload_n dJ9_floorMod_f86c9_1 rfl ?_
  refine yRem (a := v) (b := (p : Int)) dJ9_floorMod_f86c9_2 rfl (kZ _) hv1 hv2 (by omega) (by omega) ?_
  refine aX_lstore (lv' := [(0, .long (lZ (v))), (2, .long (lN (p))), (4, .long (lZ (v.tmod p)))]) dJ9_floorMod_f86c9_3 (by decide) rfl ?_
  refine aX_lload_n dJ9_floorMod_f86c9_5 rfl ?_
  refine aX_lload_n dJ9_floorMod_f86c9_6 rfl ?_
  refine aX_lxor dJ9_floorMod_f86c9_7 ?_
  refine aX_lconst (v := 0) dJ9_floorMod_f86c9_8 rfl ?_
  refine aX_lcmp dJ9_floorMod_f86c9_9 ?_
  refine lIf_ge (tgt := 25) dJ9_floorMod_f86c9_10 (by decide) (fun c1 => ?_) (fun c1 => ?_)
  · have hs : 0 ≤ v := by
      have h := (lx_sign _ _).mp c1
      have h1 : ¬ lZ v < 0 := fun z => lN_pos hp2 (h.mp z)
      rw [show (0 : Int64) = lZ 0 from rfl, lZ_lt hv1 hv2 (by decide) (by decide)] at h1
      omega
    refine aX_lload dJ9_floorMod_f86c9_25 rfl ?_
    exact rL dJ9_floorMod_f86c9_27 rfl (⟨rfl, by rw [Int.tmod_eq_emod_of_nonneg hs, kZ, Int.toNat_of_nonneg (Int.emod_nonneg v (by omega))]⟩)
  · have hs : v < 0 := by
      refine Int.lt_of_not_ge (fun z => c1 ((lx_sign _ _).mpr ⟨fun q => ?_, fun q => absurd q (lN_pos hp2)⟩))
      rw [show (0 : Int64) = lZ 0 from rfl, lZ_lt hv1 hv2 (by decide) (by decide)] at q
      omega
    have he := emod_neg' (show (0 : Int) < p by omega) hs
    have hr1 := Int.emod_nonneg v (show (p : Int) ≠ 0 by omega)
    have hr2 := Int.emod_lt_of_pos v (show (0 : Int) < p by omega)
    refine aX_lload dJ9_floorMod_f86c9_13 rfl ?_
    refine aX_lconst (v := 0) dJ9_floorMod_f86c9_15 rfl ?_
    refine aX_lcmp dJ9_floorMod_f86c9_16 ?_
    refine lIf_eq (tgt := 25) dJ9_floorMod_f86c9_17 (by decide) (fun c2 => ?_) (fun c2 => ?_)
    · have htb : -9223372036854775808 ≤ v.tmod p ∧ v.tmod p < 9223372036854775808 := by
        by_cases z : v.tmod p = 0
        · omega
        · rw [if_neg z] at he; omega
      have hz : v.tmod p = 0 := (lZ_eq htb.1 htb.2 (by decide) (by decide)).mp (c2)
      refine aX_lload dJ9_floorMod_f86c9_25 rfl ?_
      exact rL dJ9_floorMod_f86c9_27 rfl (⟨rfl, by rw [if_pos hz] at he; rw [hz, he]; rfl⟩)
    · have htb : -9223372036854775808 ≤ v.tmod p ∧ v.tmod p < 9223372036854775808 := by
        by_cases z : v.tmod p = 0
        · omega
        · rw [if_neg z] at he; omega
      have hz : ¬ v.tmod p = 0 := fun z => c2 (by rw [z]; rfl)
      refine aX_lload dJ9_floorMod_f86c9_20 rfl ?_
      refine aX_lload_n dJ9_floorMod_f86c9_22 rfl ?_
      refine yAdd (a := v.tmod p) (b := ((p : Nat) : Int)) dJ9_floorMod_f86c9_23 (rfl) (kZ _) ?_
      exact rL dJ9_floorMod_f86c9_24 rfl (⟨rfl, by rw [if_neg hz] at he; rw [← he, kZ, Int.toNat_of_nonneg hr1]⟩)
theorem pow_bit (a e i p : Nat) : a ^ (e % 2 ^ (i + 1)) % p = (if e / 2 ^ i % 2 = 1 then a ^ (e % 2 ^ i) % p * (a ^ (2 ^ i) % p) % p else a ^ (e % 2 ^ i) % p) := by
  have h := Nat.mod_mul (x := e) (a := 2 ^ i) (b := 2)
  rw [Nat.pow_succ, h]
  rcases Nat.mod_two_eq_zero_or_one (e / 2 ^ i) with z | z
  · rw [z, if_neg (by decide), Nat.mul_zero, Nat.add_zero]
  · rw [z, if_pos rfl, Nat.mul_one, Nat.pow_add, Nat.mul_mod]
theorem pow_sq (a i p : Nat) : a ^ (2 ^ (i + 1)) % p = (a ^ (2 ^ i) % p) * (a ^ (2 ^ i) % p) % p := by
  rw [Nat.pow_succ, Nat.mul_comm, Nat.two_mul, Nat.pow_add, Nat.mul_mod]
theorem mul_lt62 {a b p : Nat} (ha : a < p) (hb : b < p) (hp : p ≤ 2147483648) : a * b < 2 ^ 63 := by
  have : a * b ≤ 2147483648 * 2147483648 := Nat.mul_le_mul (by omega) (by omega)
  omega
set_option maxHeartbeats 1000000 in
theorem l_inverse {h : aH} {a p : Nat} (hp : 2 ≤ p) (hp2 : p ≤ 1073741824) : ∀ (k9 i : Nat), i ≤ 30 → 30 - i = k9 → ∀ (r q : Nat), r = a ^ ((p - 2) % 2 ^ i) % p → q = a ^ (2 ^ i) % p → aX mX6_inverse aE0 h 9 [(0, .long (lN (a))), (2, .long (lN (p))), (4, .long (lN (r))), (6, .long (lN (q))), (8, .int (nI (i)))] [] 0 0 (fun ans h' => h' = h ∧ ans = some (.long (lN (a ^ (p - 2) % p)))) := by
  intro k9
  induction k9 using Nat.strongRecOn with
  | _ k9 ih =>
    intro i hi hk9 r q  hr hs
    have hrl : r < p := by rw [hr]; exact Nat.mod_lt _ (by omega)
    have hql : q < p := by rw [hs]; exact Nat.mod_lt _ (by omega)
    have hm1 := mul_lt62 hrl hql (by omega)
    have hm2 := mul_lt62 hql hql (by omega)
    have hdl : (p - 2) / 2 ^ i ≤ p - 2 := Nat.div_le_self _ _
    refine aX_iload dX6_inverse_9 rfl ?_
    refine aX_bipush (v := nI 30) dX6_inverse_11 (by decide) ?_
    refine nGe (tgt := 55) dX6_inverse_13 (by decide) (by first | omega | exact Nat.lt_of_le_of_lt (Nat.mod_le _ _) (by omega)) (by first | omega | exact Nat.lt_of_le_of_lt (Nat.mod_le _ _) (by omega)) (fun c1 => ?_) (fun c1 => ?_)
    · refine aX_lload dX6_inverse_55 rfl ?_
      exact rL dX6_inverse_57 rfl (⟨rfl, by rw [hr, show i = 30 by omega, Nat.mod_eq_of_lt (show p - 2 < 2 ^ 30 by omega)]⟩)
    · refine aX_lload_n dX6_inverse_16 rfl ?_
      refine aX_ldc2 (v := lN 2) dX6_inverse_17 lkX6_103 ?_
      refine kSub dX6_inverse_20 (by first | omega | exact Nat.lt_of_le_of_lt (Nat.mod_le _ _) (by omega)) ?_
      refine aX_iload dX6_inverse_21 rfl ?_
      refine kShr dX6_inverse_23 (by first | omega | exact Nat.lt_of_le_of_lt (Nat.mod_le _ _) (by omega)) (by first | omega | exact Nat.lt_of_le_of_lt (Nat.mod_le _ _) (by omega)) ?_
      refine aX_lconst (v := lN 1) dX6_inverse_24 rfl ?_
      refine kAnd 1 dX6_inverse_25 rfl (by decide) (by first | omega | exact Nat.lt_of_le_of_lt (Nat.mod_le _ _) (by omega)) rfl ?_
      refine aX_lconst (v := lN 1) dX6_inverse_26 rfl ?_
      refine aX_lcmp dX6_inverse_27 ?_
      refine kIf_ne (tgt := 40) dX6_inverse_28 (by decide) (by first | omega | exact Nat.lt_of_le_of_lt (Nat.mod_le _ _) (by omega)) (by first | omega | exact Nat.lt_of_le_of_lt (Nat.mod_le _ _) (by omega)) (fun c2 => ?_) (fun c2 => ?_)
      · have hb : ¬ (p - 2) / 2 ^ i % 2 = 1 := by
          have z := c2
          rw [show (2 : Nat) ^ 1 = 2 from rfl] at z; exact z
        refine aX_lload dX6_inverse_40 rfl ?_
        refine aX_lload dX6_inverse_42 rfl ?_
        refine kMul dX6_inverse_44 ?_
        refine aX_lload_n dX6_inverse_45 rfl ?_
        refine kRem dX6_inverse_46 (by first | omega | exact Nat.lt_of_le_of_lt (Nat.mod_le _ _) (by omega)) (by first | omega | exact Nat.lt_of_le_of_lt (Nat.mod_le _ _) (by omega)) (by first | omega | exact Nat.lt_of_le_of_lt (Nat.mod_le _ _) (by omega)) ?_
        refine aX_lstore (lv' := [(0, .long (lN (a))), (2, .long (lN (p))), (4, .long (lN (r))), (6, .long (lN ((q * q) % p))), (8, .int (nI (i)))]) dX6_inverse_47 (by decide) rfl ?_
        refine nInc (lv' := [(0, .long (lN (a))), (2, .long (lN (p))), (4, .long (lN (r))), (6, .long (lN ((q * q) % p))), (8, .int (nI (i + 1)))]) dX6_inverse_49 rfl rfl (by decide) rfl ?_
        refine aX_goto (tgt := 9) dX6_inverse_52 (by decide) ?_
        exact ih (30 - (i + 1)) (by omega) (i + 1) (by omega) rfl _ _ (by rw [pow_bit, if_neg hb]; exact hr) (by rw [pow_sq, ← hs])
      · have hb : (p - 2) / 2 ^ i % 2 = 1 := by
          have z := c2
          rw [show (2 : Nat) ^ 1 = 2 from rfl] at z; exact z
        refine aX_lload dX6_inverse_31 rfl ?_
        refine aX_lload dX6_inverse_33 rfl ?_
        refine kMul dX6_inverse_35 ?_
        refine aX_lload_n dX6_inverse_36 rfl ?_
        refine kRem dX6_inverse_37 (by first | omega | exact Nat.lt_of_le_of_lt (Nat.mod_le _ _) (by omega)) (by first | omega | exact Nat.lt_of_le_of_lt (Nat.mod_le _ _) (by omega)) (by first | omega | exact Nat.lt_of_le_of_lt (Nat.mod_le _ _) (by omega)) ?_
        refine aX_lstore (lv' := [(0, .long (lN (a))), (2, .long (lN (p))), (4, .long (lN ((r * q) % p))), (6, .long (lN (q))), (8, .int (nI (i)))]) dX6_inverse_38 (by decide) rfl ?_
        refine aX_lload dX6_inverse_40 rfl ?_
        refine aX_lload dX6_inverse_42 rfl ?_
        refine kMul dX6_inverse_44 ?_
        refine aX_lload_n dX6_inverse_45 rfl ?_
        refine kRem dX6_inverse_46 (by first | omega | exact Nat.lt_of_le_of_lt (Nat.mod_le _ _) (by omega)) (by first | omega | exact Nat.lt_of_le_of_lt (Nat.mod_le _ _) (by omega)) (by first | omega | exact Nat.lt_of_le_of_lt (Nat.mod_le _ _) (by omega)) ?_
        refine aX_lstore (lv' := [(0, .long (lN (a))), (2, .long (lN (p))), (4, .long (lN ((r * q) % p))), (6, .long (lN ((q * q) % p))), (8, .int (nI (i)))]) dX6_inverse_47 (by decide) rfl ?_
        refine nInc (lv' := [(0, .long (lN (a))), (2, .long (lN (p))), (4, .long (lN ((r * q) % p))), (6, .long (lN ((q * q) % p))), (8, .int (nI (i + 1)))]) dX6_inverse_49 rfl rfl (by decide) rfl ?_
        refine aX_goto (tgt := 9) dX6_inverse_52 (by decide) ?_
        exact ih (30 - (i + 1)) (by omega) (i + 1) (by omega) rfl _ _ (by rw [pow_bit, if_pos hb, ← hr, ← hs]) (by rw [pow_sq, ← hs])
set_option maxHeartbeats 1000000 in
theorem c_inverse {h : aH} {a p : Nat} (hp : 2 ≤ p) (hp2 : p ≤ 1073741824) (ha : a < p) : aMp mX6_inverse [.long (lN a), .long (lN p)] h (.long (lN (a ^ (p - 2) % p))) := by
  refine aM_of plX6_inverse (Nat.le_of_ble_eq_true rfl) ?_
  refine aX_lconst (v := lN 1) dX6_inverse_0 rfl ?_
  refine aX_lstore (lv' := [(0, .long (lN (a))), (2, .long (lN (p))), (4, .long (lN (1)))]) dX6_inverse_1 (by decide) rfl ?_
  refine aX_lload_n dX6_inverse_3 rfl ?_
  refine aX_lstore (lv' := [(0, .long (lN (a))), (2, .long (lN (p))), (4, .long (lN (1))), (6, .long (lN (a)))]) dX6_inverse_4 (by decide) rfl ?_
  refine aX_iconst (v := nI 0) dX6_inverse_6 (by decide) ?_
  refine aX_istore (lv' := [(0, .long (lN (a))), (2, .long (lN (p))), (4, .long (lN (1))), (6, .long (lN (a))), (8, .int (nI (0)))]) dX6_inverse_7 (by decide) rfl ?_
  exact l_inverse hp hp2 _ 0 (by omega) rfl 1 a (by rw [Nat.pow_zero, Nat.mod_one, Nat.pow_zero, Nat.mod_eq_of_lt (by omega)]) (by rw [Nat.pow_zero, Nat.pow_one, Nat.mod_eq_of_lt ha])
theorem r79 {R : Nat → Nat → Option Nat} (hR : aRf R) : ∀ x, x < 20 → R 79 x = some (80 + x)
  | 0, _ => hR 79 0 80 rfl
  | 1, _ => hR 79 1 81 rfl
  | 2, _ => hR 79 2 82 rfl
  | 3, _ => hR 79 3 83 rfl
  | 4, _ => hR 79 4 84 rfl
  | 5, _ => hR 79 5 85 rfl
  | 6, _ => hR 79 6 86 rfl
  | 7, _ => hR 79 7 87 rfl
  | 8, _ => hR 79 8 88 rfl
  | 9, _ => hR 79 9 89 rfl
  | 10, _ => hR 79 10 90 rfl
  | 11, _ => hR 79 11 91 rfl
  | 12, _ => hR 79 12 92 rfl
  | 13, _ => hR 79 13 93 rfl
  | 14, _ => hR 79 14 94 rfl
  | 15, _ => hR 79 15 95 rfl
  | 16, _ => hR 79 16 96 rfl
  | 17, _ => hR 79 17 97 rfl
  | 18, _ => hR 79 18 98 rfl
  | 19, _ => hR 79 19 99 rfl
  | n + 20, h => absurd h (by omega)
theorem s79r {I : Nat → Nat → Int32} {L : Nat → Nat → Int64} {R : Nat → Nat → Option Nat} : ∀ x, x < 20 → aSh (sh0, I, L, R) (80 + x) = some (3, 21)
  | 0, _ => rfl
  | 1, _ => rfl
  | 2, _ => rfl
  | 3, _ => rfl
  | 4, _ => rfl
  | 5, _ => rfl
  | 6, _ => rfl
  | 7, _ => rfl
  | 8, _ => rfl
  | 9, _ => rfl
  | 10, _ => rfl
  | 11, _ => rfl
  | 12, _ => rfl
  | 13, _ => rfl
  | 14, _ => rfl
  | 15, _ => rfl
  | 16, _ => rfl
  | 17, _ => rfl
  | 18, _ => rfl
  | 19, _ => rfl
  | n + 20, h => absurd h (by omega)
theorem r100 {R : Nat → Nat → Option Nat} (hR : aRf R) : ∀ x, x < 11 → R 100 x = some (101 + x)
  | 0, _ => hR 100 0 101 rfl
  | 1, _ => hR 100 1 102 rfl
  | 2, _ => hR 100 2 103 rfl
  | 3, _ => hR 100 3 104 rfl
  | 4, _ => hR 100 4 105 rfl
  | 5, _ => hR 100 5 106 rfl
  | 6, _ => hR 100 6 107 rfl
  | 7, _ => hR 100 7 108 rfl
  | 8, _ => hR 100 8 109 rfl
  | 9, _ => hR 100 9 110 rfl
  | 10, _ => hR 100 10 111 rfl
  | n + 11, h => absurd h (by omega)
theorem s100r {I : Nat → Nat → Int32} {L : Nat → Nat → Int64} {R : Nat → Nat → Option Nat} : ∀ x, x < 11 → aSh (sh0, I, L, R) (101 + x) = some (3, 22)
  | 0, _ => rfl
  | 1, _ => rfl
  | 2, _ => rfl
  | 3, _ => rfl
  | 4, _ => rfl
  | 5, _ => rfl
  | 6, _ => rfl
  | 7, _ => rfl
  | 8, _ => rfl
  | 9, _ => rfl
  | 10, _ => rfl
  | n + 11, h => absurd h (by omega)
def sBd (S : jQt) (n : Nat) : Prop := (∀ i j, i < n → j < n → -9223372036854775808 ≤ S.1 i j ∧ S.1 i j < 9223372036854775808) ∧ (∀ i, i < n → -9223372036854775808 ≤ S.2.1 i ∧ S.2.1 i < 9223372036854775808) ∧ -9223372036854775808 ≤ S.2.2 ∧ S.2.2 < 9223372036854775808
def wk (L : Nat → Nat → Int64) (W : Nx) (n : Nat) : Prop := ∀ i j, i < n → j < n + 1 → L (80 + i) j = lN (W i j)
theorem wk_set {L : Nat → Nat → Int64} {W W' : Nx} {n i j v : Nat} (h : wk L W n) (hw : ∀ a b, a < n → b < n + 1 → W' a b = if a = i ∧ b = j then v else W a b) : wk (aU L (80 + i) j (lN v)) W' n := fun a b ha hb => by
  rw [hw a b ha hb]
  by_cases e : a = i ∧ b = j
  · obtain ⟨rfl, rfl⟩ := e; rw [aU_s, if_pos ⟨rfl, rfl⟩]
  · rw [aU_n (by omega), if_neg e]; exact h a b ha hb
def ldW (S : jQt) (p n : Nat) : Nx := fun i j => if j < n then (S.1 i j % p).toNat else (S.2.1 i % p).toNat
def ldP (S : jQt) (p n i0 j0 : Nat) (L : Nat → Nat → Int64) : Prop := ∀ i j, i < n → j < n + 1 → (i < i0 ∨ (i = i0 ∧ j < j0)) → L (80 + i) j = lN (ldW S p n i j)
theorem ldP_set {S : jQt} {p n i0 j0 : Nat} {L : Nat → Nat → Int64} (h : ldP S p n i0 j0 L) : ldP S p n i0 (j0 + 1) (aU L (80 + i0) j0 (lN (ldW S p n i0 j0))) := fun i j hi hj hc => by
  by_cases e : i = i0 ∧ j = j0
  · obtain ⟨rfl, rfl⟩ := e; rw [aU_s]
  · rw [aU_n (by omega)]; exact h i j hi hj (by omega)
set_option maxHeartbeats 1000000 in
theorem l_loadIn {I : Nat → Nat → Int32} {L : Nat → Nat → Int64} {R : Nat → Nat → Option Nat} (hR : aRf R) {S : jQt} {n : Nat} (hn : I 53 4 = nI n) (hn20 : n ≤ 20) (hq : qRep L S) (hbd : sBd S n) {p : Nat} (hp : 2 ≤ p) (hp2 : p ≤ 1073741824) {i : Nat} (hi : i < n) {Q : Option Value → aH → Prop} (kk : ∀ (L2 : Nat → Nat → Int64), ldP S p n i n L2 → lK 80 99 L L2 → aX mX6_load aE0 (sh0, I, L2, R) 59 [(0, .ref 77), (1, .long (lN p)), (3, .int (nI n)), (4, .int (nI i)), (5, .int (nI n))] [] 0 0 Q) : ∀ (k9 j : Nat), j ≤ n → n - j = k9 → ∀ (L1 : Nat → Nat → Int64), ldP S p n i j L1 → lK 80 99 L L1 → aX mX6_load aE0 (sh0, I, L1, R) 20 [(0, .ref 77), (1, .long (lN (p))), (3, .int (nI (n))), (4, .int (nI (i))), (5, .int (nI (j)))] [] 0 0 Q := by
  intro k9
  induction k9 using Nat.strongRecOn with
  | _ k9 ih =>
    intro j hij hk9 L1  hd hl
    refine aX_iload dX6_load_20 rfl ?_
    refine aX_iload_n dX6_load_22 rfl ?_
    refine nGe (tgt := 59) dX6_load_23 (by decide) (by first | omega | exact Nat.lt_of_le_of_lt (Nat.mod_le _ _) (by omega)) (by first | omega | exact Nat.lt_of_le_of_lt (Nat.mod_le _ _) (by omega)) (fun c1 => ?_) (fun c1 => ?_)
    · obtain rfl : j = n := by omega
      exact kk L1 hd hl
    · refine aX_aload_n dX6_load_26 rfl ?_
      refine aX_get dX6_load_27 lfX6_19 s77 (f77_2 hR) ?_
      refine aX_iload dX6_load_30 rfl ?_
      refine nAald (r := 80 + i) dX6_load_32 s79 (by decide) (by first | omega | exact Nat.lt_of_le_of_lt (Nat.mod_le _ _) (by omega)) (by decide) (r79 hR i (by omega)) ?_
      refine aX_iload dX6_load_33 rfl ?_
      refine aX_aload_n dX6_load_35 rfl ?_
      refine aX_get dX6_load_36 lfX6_35 s77 (f77_0 hR) ?_
      refine aX_get dX6_load_39 lfX6_88 s53 (f53_7 hR) ?_
      refine aX_iload dX6_load_42 rfl ?_
      refine nAald (r := 55 + i) dX6_load_44 s54 (by decide) (by first | omega | exact Nat.lt_of_le_of_lt (Nat.mod_le _ _) (by omega)) (by decide) (r54 hR i (by omega)) ?_
      refine aX_iload dX6_load_45 rfl ?_
      refine nLald (v := lZ (S.1 i j)) dX6_load_47 (s54r i (by omega)) (by first | omega | exact Nat.lt_of_le_of_lt (Nat.mod_le _ _) (by omega)) (by decide) ((hl _ _ (by omega)).trans (hq.1 i j (by omega) (by omega))) ?_
      refine aX_lload_n dX6_load_48 rfl ?_
      refine cSp (As := [.long (lZ (S.1 i j)), .long (lN (p))]) (st := [.int (nI (j)), .ref (80 + i)]) (v := .long (lN (((S.1 i j) % p).toNat))) dX6_load_49 kX6_load_76 aEok0 rfl rfl (Nat.le_of_ble_eq_true rfl) (c_fmodL (hbd.1 i j (by omega) (by omega)).1 (hbd.1 i j (by omega) (by omega)).2 (by omega) (by omega)) ?_
      refine nLast dX6_load_52 (s79r i (by omega)) (by first | omega | exact Nat.lt_of_le_of_lt (Nat.mod_le _ _) (by omega)) (by decide) ?_
      obtain ⟨L2, hL2⟩ : ∃ z, z = (aU L1 (80 + i) j (lN (((S.1 i j) % p).toNat))) := ⟨_, rfl⟩
      rw [← hL2]
      have hd2 : ldP S p n i (j + 1) L2 := by
        have g := ldP_set hd
        rw [show ldW S p n i j = (S.1 i j % p).toNat from if_pos (by omega)] at g
        rw [hL2]; exact g
      have hl2 : lK 80 99 L L2 := by rw [hL2]; exact lK_set hl (by omega) (by omega)
      refine nInc (lv' := [(0, .ref 77), (1, .long (lN (p))), (3, .int (nI (n))), (4, .int (nI (i))), (5, .int (nI (j + 1)))]) dX6_load_53 rfl rfl (by decide) rfl ?_
      refine aX_goto (tgt := 20) dX6_load_56 (by decide) ?_
      exact ih (n - (j + 1)) (by omega) (j + 1) (by omega) rfl L2 hd2 hl2
set_option maxHeartbeats 1000000 in
theorem l_load {I : Nat → Nat → Int32} {L : Nat → Nat → Int64} {R : Nat → Nat → Option Nat} (hR : aRf R) {S : jQt} {n : Nat} (hn : I 53 4 = nI n) (hn20 : n ≤ 20) (hq : qRep L S) (hbd : sBd S n) {p : Nat} (hp : 2 ≤ p) (hp2 : p ≤ 1073741824) : ∀ (k9 i : Nat), i ≤ n → n - i = k9 → ∀ (L1 : Nat → Nat → Int64), ldP S p n i 0 L1 → lK 80 99 L L1 → aX mX6_load aE0 (sh0, I, L1, R) 11 [(0, .ref 77), (1, .long (lN (p))), (3, .int (nI (n))), (4, .int (nI (i)))] [] 0 0 (fun ans h' => ans = none ∧ ∃ L', h' = (sh0, I, L', R) ∧ wk L' (ldW S p n) n ∧ lK 80 99 L L') := by
  intro k9
  induction k9 using Nat.strongRecOn with
  | _ k9 ih =>
    intro i hi hk9 L1  hd hl
    refine aX_iload dX6_load_11 rfl ?_
    refine aX_iload_n dX6_load_13 rfl ?_
    refine nGe (tgt := 88) dX6_load_14 (by decide) (by first | omega | exact Nat.lt_of_le_of_lt (Nat.mod_le _ _) (by omega)) (by first | omega | exact Nat.lt_of_le_of_lt (Nat.mod_le _ _) (by omega)) (fun c1 => ?_) (fun c1 => ?_)
    · exact rV dX6_load_88 rfl (⟨rfl, L1, rfl, fun a b ha hb => hd a b ha hb (by omega), hl⟩)
    · refine aX_iconst (v := nI 0) dX6_load_17 (by decide) ?_
      refine aX_istore (lv' := [(0, .ref 77), (1, .long (lN (p))), (3, .int (nI (n))), (4, .int (nI (i))), (5, .int (nI (0)))]) dX6_load_18 (by decide) rfl ?_
      refine l_loadIn hR hn hn20 hq hbd hp hp2 (i := i) (by omega) (fun L2 g1 g2 => ?_) _ 0 (by omega) rfl L1 hd hl
      refine aX_aload_n dX6_load_59 rfl ?_
      refine aX_get dX6_load_60 lfX6_19 s77 (f77_2 hR) ?_
      refine aX_iload dX6_load_63 rfl ?_
      refine nAald (r := 80 + i) dX6_load_65 s79 (by decide) (by first | omega | exact Nat.lt_of_le_of_lt (Nat.mod_le _ _) (by omega)) (by decide) (r79 hR i (by omega)) ?_
      refine aX_iload_n dX6_load_66 rfl ?_
      refine aX_aload_n dX6_load_67 rfl ?_
      refine aX_get dX6_load_68 lfX6_35 s77 (f77_0 hR) ?_
      refine aX_get dX6_load_71 lfX6_85 s53 (f53_8 hR) ?_
      refine aX_iload dX6_load_74 rfl ?_
      refine nLald (v := lZ (S.2.1 i)) dX6_load_76 s75 (by first | omega | exact Nat.lt_of_le_of_lt (Nat.mod_le _ _) (by omega)) (by decide) ((g2 _ _ (by omega)).trans (hq.2.1 i (by omega))) ?_
      refine aX_lload_n dX6_load_77 rfl ?_
      refine cSp (As := [.long (lZ (S.2.1 i)), .long (lN (p))]) (st := [.int (nI (n)), .ref (80 + i)]) (v := .long (lN (((S.2.1 i) % p).toNat))) dX6_load_78 kX6_load_76 aEok0 rfl rfl (Nat.le_of_ble_eq_true rfl) (c_fmodL (hbd.2.1 i (by omega)).1 (hbd.2.1 i (by omega)).2 (by omega) (by omega)) ?_
      refine nLast dX6_load_81 (s79r i (by omega)) (by first | omega | exact Nat.lt_of_le_of_lt (Nat.mod_le _ _) (by omega)) (by decide) ?_
      obtain ⟨L3, hL3⟩ : ∃ z, z = (aU L2 (80 + i) n (lN (((S.2.1 i) % p).toNat))) := ⟨_, rfl⟩
      rw [← hL3]
      have hd3 : ldP S p n (i + 1) 0 L3 := by
        have g := ldP_set g1
        rw [show ldW S p n i n = (S.2.1 i % p).toNat from if_neg (by omega)] at g
        rw [hL3]
        exact fun a b ha hb hc => g a b ha hb (by omega)
      have hl3 : lK 80 99 L L3 := by rw [hL3]; exact lK_set g2 (by omega) (by omega)
      refine nInc (lv' := [(0, .ref 77), (1, .long (lN (p))), (3, .int (nI (n))), (4, .int (nI (i + 1))), (5, .int (nI (n)))]) dX6_load_82 rfl rfl (by decide) rfl ?_
      refine aX_goto (tgt := 11) dX6_load_85 (by decide) ?_
      refine aX_lv (lv' := [(0, .ref 77), (1, .long (lN (p))), (3, .int (nI (n))), (4, .int (nI (i + 1)))]) [0, 1, 2, 3] rfl ?_
      exact ih (n - (i + 1)) (by omega) (i + 1) (by omega) rfl L3 hd3 hl3
set_option maxHeartbeats 1000000 in
theorem c_load {I : Nat → Nat → Int32} {L : Nat → Nat → Int64} {R : Nat → Nat → Option Nat} (hR : aRf R) {S : jQt} {n : Nat} (hn : I 53 4 = nI n) (hn20 : n ≤ 20) (hq : qRep L S) (hbd : sBd S n) {p : Nat} (hp : 2 ≤ p) (hp2 : p ≤ 1073741824) : aM mX6_load [.ref 77, .long (lN p)] (sh0, I, L, R) (fun ans h' => ans = none ∧ ∃ L', h' = (sh0, I, L', R) ∧ wk L' (ldW S p n) n ∧ lK 80 99 L L') := by
  refine aM_of plX6_load (Nat.le_of_ble_eq_true rfl) ?_
  refine aX_aload_n dX6_load_0 rfl ?_
  refine aX_get dX6_load_1 lfX6_35 s77 (f77_0 hR) ?_
  refine aX_get (v := .int (nI (n))) dX6_load_4 lfX6_56 s53 (congrArg Value.int (hn)) ?_
  refine aX_istore_n (lv' := [(0, .ref 77), (1, .long (lN (p))), (3, .int (nI (n)))]) dX6_load_7 (by decide) rfl ?_
  refine aX_iconst (v := nI 0) dX6_load_8 (by decide) ?_
  refine aX_istore (lv' := [(0, .ref 77), (1, .long (lN (p))), (3, .int (nI (n))), (4, .int (nI (0)))]) dX6_load_9 (by decide) rfl ?_
  exact l_load hR hn hn20 hq hbd hp hp2 _ 0 (by omega) rfl L (fun a b _ _ h => by omega) lK_refl
set_option maxHeartbeats 1000000 in
theorem l_findRow {I : Nat → Nat → Int32} {L : Nat → Nat → Int64} {R : Nat → Nat → Option Nat} (hR : aRf R) {n : Nat} (hn : I 53 4 = nI n) (hn20 : n ≤ 20) {W : Nx} (hw : wk L W n) {p : Nat} (hp : 2 ≤ p) (hp2 : p ≤ 1073741824) (hlt : ∀ i j, i < n → j < n + 1 → W i j < p) {c : Nat} (hc : c < n) : ∀ (k9 r : Nat), r ≤ n → n - r = k9 → c ≤ r → (∀ q, c ≤ q → q < r → W q c = 0) → aX mX6_findRow aE0 (sh0, I, L, R) 2 [(0, .ref 77), (1, .int (nI (c))), (2, .int (nI (r)))] [] 0 0 (fun ans h' => h' = (sh0, I, L, R) ∧ ((∃ r, c ≤ r ∧ r < n ∧ W r c ≠ 0 ∧ ans = some (.int (nI r))) ∨ ((∀ r, c ≤ r → r < n → W r c = 0) ∧ ans = some (.int (-1))))) := by
  intro k9
  induction k9 using Nat.strongRecOn with
  | _ k9 ih =>
    intro r hi hk9  hcr hz
    have hlr : r < n → W r c < p := fun g => hlt r c g (by omega)
    refine aX_iload_n dX6_findRow_2 rfl ?_
    refine aX_aload_n dX6_findRow_3 rfl ?_
    refine aX_get dX6_findRow_4 lfX6_35 s77 (f77_0 hR) ?_
    refine aX_get (v := .int (nI (n))) dX6_findRow_7 lfX6_56 s53 (congrArg Value.int (hn)) ?_
    refine nGe (tgt := 34) dX6_findRow_10 (by decide) (by first | omega | exact Nat.lt_of_le_of_lt (Nat.mod_le _ _) (by omega)) (by first | omega | exact Nat.lt_of_le_of_lt (Nat.mod_le _ _) (by omega)) (fun c1 => ?_) (fun c1 => ?_)
    · refine aX_iconst (v := (-1)) dX6_findRow_34 (by decide) ?_
      exact rI dX6_findRow_35 rfl (⟨rfl, Or.inr ⟨fun q h1 h2 => hz q h1 (by omega), rfl⟩⟩)
    · refine aX_aload_n dX6_findRow_13 rfl ?_
      refine aX_get dX6_findRow_14 lfX6_19 s77 (f77_2 hR) ?_
      refine aX_iload_n dX6_findRow_17 rfl ?_
      refine nAald (r := 80 + r) dX6_findRow_18 s79 (by decide) (by first | omega | exact Nat.lt_of_le_of_lt (Nat.mod_le _ _) (by omega)) (by decide) (r79 hR r (by omega)) ?_
      refine aX_iload_n dX6_findRow_19 rfl ?_
      refine nLald (v := lN (W r c)) dX6_findRow_20 (s79r r (by omega)) (by first | omega | exact Nat.lt_of_le_of_lt (Nat.mod_le _ _) (by omega)) (by decide) (hw r c (by omega) (by omega)) ?_
      refine aX_lconst (v := lN 0) dX6_findRow_21 rfl ?_
      refine aX_lcmp dX6_findRow_22 ?_
      refine kIf_eq (tgt := 28) dX6_findRow_23 (by decide) (by first | omega | exact Nat.lt_of_le_of_lt (Nat.mod_le _ _) (by omega)) (by first | omega | exact Nat.lt_of_le_of_lt (Nat.mod_le _ _) (by omega)) (fun c2 => ?_) (fun c2 => ?_)
      · refine nInc (lv' := [(0, .ref 77), (1, .int (nI (c))), (2, .int (nI (r + 1)))]) dX6_findRow_28 rfl rfl (by decide) rfl ?_
        refine aX_goto (tgt := 2) dX6_findRow_31 (by decide) ?_
        exact ih (n - (r + 1)) (by omega) (r + 1) (by omega) rfl (by omega) (fun q h1 h2 => by
          by_cases e : q = r
          · subst e; omega
          · exact hz q h1 (by omega))
      · refine aX_iload_n dX6_findRow_26 rfl ?_
        exact rI dX6_findRow_27 rfl (⟨rfl, Or.inl ⟨r, hcr, by omega, by omega, rfl⟩⟩)
set_option maxHeartbeats 1000000 in
theorem c_findRow {I : Nat → Nat → Int32} {L : Nat → Nat → Int64} {R : Nat → Nat → Option Nat} (hR : aRf R) {n : Nat} (hn : I 53 4 = nI n) (hn20 : n ≤ 20) {W : Nx} (hw : wk L W n) {p : Nat} (hp : 2 ≤ p) (hp2 : p ≤ 1073741824) (hlt : ∀ i j, i < n → j < n + 1 → W i j < p) {c : Nat} (hc : c < n) : aM mX6_findRow [.ref 77, .int (nI c)] (sh0, I, L, R) (fun ans h' => h' = (sh0, I, L, R) ∧ ((∃ r, c ≤ r ∧ r < n ∧ W r c ≠ 0 ∧ ans = some (.int (nI r))) ∨ ((∀ r, c ≤ r → r < n → W r c = 0) ∧ ans = some (.int (-1))))) := by
  refine aM_of plX6_findRow (Nat.le_of_ble_eq_true rfl) ?_
  refine aX_iload_n dX6_findRow_0 rfl ?_
  refine aX_istore_n (lv' := [(0, .ref 77), (1, .int (nI (c))), (2, .int (nI (c)))]) dX6_findRow_1 (by decide) rfl ?_
  exact l_findRow hR hn hn20 hw hp hp2 hlt hc _ c (by omega) rfl (Nat.le_refl _) (fun q h1 h2 => by omega)
def wSwJ (W : Nx) (c r m : Nat) : Nx := fun i j => if j < m then wSwap W c r i j else W i j
theorem wSwJ_full {W : Nx} {c r n : Nat} {L : Nat → Nat → Int64} (h : wk L (wSwJ W c r (n + 1)) n) : wk L (wSwap W c r) n := fun i j hi hj => by rw [h i j hi hj]; unfold wSwJ; rw [if_pos hj]
set_option maxHeartbeats 1000000 in
theorem l_swap {I : Nat → Nat → Int32} {L : Nat → Nat → Int64} {R : Nat → Nat → Option Nat} (hR : aRf R) {n : Nat} (hn : I 53 4 = nI n) (hn20 : n ≤ 20) {W : Nx} (hw : wk L W n) {c r : Nat} (hc : c < n) (hr : r < n) (hcr : c ≠ r) : ∀ (k9 j : Nat), j ≤ n + 1 → (n + 1) - j = k9 → ∀ (L1 : Nat → Nat → Int64), wk L1 (wSwJ W c r j) n → lK 80 99 L L1 → aX mX6_swapRows aE0 (sh0, I, L1, R) 2 [(0, .ref 77), (1, .int (nI (c))), (2, .int (nI (r))), (3, .int (nI (j)))] [] 0 0 (fun ans h' => ans = none ∧ ∃ L', h' = (sh0, I, L', R) ∧ wk L' (wSwap W c r) n ∧ lK 80 99 L L') := by
  intro k9
  induction k9 using Nat.strongRecOn with
  | _ k9 ih =>
    intro j hi hk9 L1  hd hl
    refine aX_iload_n dX6_swapRows_2 rfl ?_
    refine aX_aload_n dX6_swapRows_3 rfl ?_
    refine aX_get dX6_swapRows_4 lfX6_35 s77 (f77_0 hR) ?_
    refine aX_get (v := .int (nI (n))) dX6_swapRows_7 lfX6_56 s53 (congrArg Value.int (hn)) ?_
    refine nGt (tgt := 55) dX6_swapRows_10 (by decide) (by first | omega | exact Nat.lt_of_le_of_lt (Nat.mod_le _ _) (by omega)) (by first | omega | exact Nat.lt_of_le_of_lt (Nat.mod_le _ _) (by omega)) (fun c1 => ?_) (fun c1 => ?_)
    · exact rV dX6_swapRows_55 rfl (⟨rfl, L1, rfl, by rw [show j = n + 1 by omega] at hd; exact wSwJ_full hd, hl⟩)
    · refine aX_aload_n dX6_swapRows_13 rfl ?_
      refine aX_get dX6_swapRows_14 lfX6_19 s77 (f77_2 hR) ?_
      refine aX_iload_n dX6_swapRows_17 rfl ?_
      refine nAald (r := 80 + c) dX6_swapRows_18 s79 (by decide) (by first | omega | exact Nat.lt_of_le_of_lt (Nat.mod_le _ _) (by omega)) (by decide) (r79 hR c (by omega)) ?_
      refine aX_iload_n dX6_swapRows_19 rfl ?_
      refine nLald (v := lN (W c j)) dX6_swapRows_20 (s79r c (by omega)) (by first | omega | exact Nat.lt_of_le_of_lt (Nat.mod_le _ _) (by omega)) (by decide) ((hd c j (by omega) (by omega)).trans (by unfold wSwJ; rw [if_neg (by omega)])) ?_
      refine aX_lstore (lv' := [(0, .ref 77), (1, .int (nI (c))), (2, .int (nI (r))), (3, .int (nI (j))), (4, .long (lN (W c j)))]) dX6_swapRows_21 (by decide) rfl ?_
      refine aX_aload_n dX6_swapRows_23 rfl ?_
      refine aX_get dX6_swapRows_24 lfX6_19 s77 (f77_2 hR) ?_
      refine aX_iload_n dX6_swapRows_27 rfl ?_
      refine nAald (r := 80 + c) dX6_swapRows_28 s79 (by decide) (by first | omega | exact Nat.lt_of_le_of_lt (Nat.mod_le _ _) (by omega)) (by decide) (r79 hR c (by omega)) ?_
      refine aX_iload_n dX6_swapRows_29 rfl ?_
      refine aX_aload_n dX6_swapRows_30 rfl ?_
      refine aX_get dX6_swapRows_31 lfX6_19 s77 (f77_2 hR) ?_
      refine aX_iload_n dX6_swapRows_34 rfl ?_
      refine nAald (r := 80 + r) dX6_swapRows_35 s79 (by decide) (by first | omega | exact Nat.lt_of_le_of_lt (Nat.mod_le _ _) (by omega)) (by decide) (r79 hR r (by omega)) ?_
      refine aX_iload_n dX6_swapRows_36 rfl ?_
      refine nLald (v := lN (W r j)) dX6_swapRows_37 (s79r r (by omega)) (by first | omega | exact Nat.lt_of_le_of_lt (Nat.mod_le _ _) (by omega)) (by decide) ((hd r j (by omega) (by omega)).trans (by unfold wSwJ; rw [if_neg (by omega)])) ?_
      refine nLast dX6_swapRows_38 (s79r c (by omega)) (by first | omega | exact Nat.lt_of_le_of_lt (Nat.mod_le _ _) (by omega)) (by decide) ?_
      refine aX_aload_n dX6_swapRows_39 rfl ?_
      refine aX_get dX6_swapRows_40 lfX6_19 s77 (f77_2 hR) ?_
      refine aX_iload_n dX6_swapRows_43 rfl ?_
      refine nAald (r := 80 + r) dX6_swapRows_44 s79 (by decide) (by first | omega | exact Nat.lt_of_le_of_lt (Nat.mod_le _ _) (by omega)) (by decide) (r79 hR r (by omega)) ?_
      refine aX_iload_n dX6_swapRows_45 rfl ?_
      refine aX_lload dX6_swapRows_46 rfl ?_
      refine nLast dX6_swapRows_48 (s79r r (by omega)) (by first | omega | exact Nat.lt_of_le_of_lt (Nat.mod_le _ _) (by omega)) (by decide) ?_
      refine nInc (lv' := [(0, .ref 77), (1, .int (nI (c))), (2, .int (nI (r))), (3, .int (nI (j + 1))), (4, .long (lN (W c j)))]) dX6_swapRows_49 rfl rfl (by decide) rfl ?_
      refine aX_goto (tgt := 2) dX6_swapRows_52 (by decide) ?_
      refine aX_lv (lv' := [(0, .ref 77), (1, .int (nI (c))), (2, .int (nI (r))), (3, .int (nI (j + 1)))]) [0, 1, 2, 3] rfl ?_
      exact ih (n + 1 - (j + 1)) (by omega) (j + 1) (by omega) rfl _ (by
        have g1 := wk_set hd (i := c) (j := j) (v := W r j) (W' := fun a b => if a = c ∧ b = j then W r j else wSwJ W c r j a b) (fun _ _ _ _ => rfl)
        refine wk_set g1 (fun a b ha hb => ?_)
        show wSwJ W c r (j + 1) a b = if a = r ∧ b = j then W c j else if a = c ∧ b = j then W r j else wSwJ W c r j a b
        unfold wSwJ
        by_cases e1 : b < j
        · rw [if_pos (show b < j + 1 by omega), if_neg (show ¬ (a = r ∧ b = j) by omega), if_neg (show ¬ (a = c ∧ b = j) by omega), if_pos e1]
        · by_cases e2 : b = j
          · subst e2
            rw [if_pos (show b < b + 1 by omega)]
            unfold wSwap
            by_cases e3 : a = r
            · rw [if_neg (show ¬ a = c by omega), if_pos e3, if_pos (show a = r ∧ b = b from ⟨e3, rfl⟩)]
            · rw [if_neg (show ¬ (a = r ∧ b = b) from fun z => e3 z.1)]
              by_cases e4 : a = c
              · rw [if_pos e4, if_pos (show a = c ∧ b = b from ⟨e4, rfl⟩)]
              · rw [if_neg e4, if_neg e3, if_neg (show ¬ (a = c ∧ b = b) from fun z => e4 z.1), if_neg (show ¬ b < b by omega)]
          · rw [if_neg (show ¬ b < j + 1 by omega), if_neg (show ¬ (a = r ∧ b = j) by omega), if_neg (show ¬ (a = c ∧ b = j) by omega), if_neg e1]) (lK_set (lK_set hl (by omega) (by omega)) (by omega) (by omega))
set_option maxHeartbeats 1000000 in
theorem c_swapRows {I : Nat → Nat → Int32} {L : Nat → Nat → Int64} {R : Nat → Nat → Option Nat} (hR : aRf R) {n : Nat} (hn : I 53 4 = nI n) (hn20 : n ≤ 20) {W : Nx} (hw : wk L W n) {c r : Nat} (hc : c < n) (hr : r < n) (hcr : c ≠ r) : aM mX6_swapRows [.ref 77, .int (nI c), .int (nI r)] (sh0, I, L, R) (fun ans h' => ans = none ∧ ∃ L', h' = (sh0, I, L', R) ∧ wk L' (wSwap W c r) n ∧ lK 80 99 L L') := by
  refine aM_of plX6_swapRows (Nat.le_of_ble_eq_true rfl) ?_
  refine aX_iconst (v := nI 0) dX6_swapRows_0 (by decide) ?_
  refine aX_istore_n (lv' := [(0, .ref 77), (1, .int (nI (c))), (2, .int (nI (r))), (3, .int (nI (0)))]) dX6_swapRows_1 (by decide) rfl ?_
  exact l_swap hR hn hn20 hw hc hr hcr _ 0 (by omega) rfl L (fun a b ha hb => by rw [hw a b ha hb]; unfold wSwJ; rw [if_neg (by omega)]) lK_refl
set_option maxHeartbeats 1000000 in
theorem l_sub {I : Nat → Nat → Int32} {L : Nat → Nat → Int64} {R : Nat → Nat → Option Nat} (hR : aRf R) {n : Nat} (hn : I 53 4 = nI n) (hn20 : n ≤ 20) {W : Nx} (hw : wk L W n) {p : Nat} (hp : 2 ≤ p) (hp2 : p ≤ 1073741824) (hlt : ∀ i j, i < n → j < n + 1 → W i j < p) {c b : Nat} (hc : c < b) (hb : b < n) : ∀ (k9 j : Nat), j ≤ n + 1 → (n + 1) - j = k9 → ∀ (L1 : Nat → Nat → Int64), c ≤ j → wk L1 (wSub W p c b j) n → lK 80 99 L L1 → aX mX6_subtractRow aE0 (sh0, I, L1, R) 27 [(0, .ref 77), (1, .int (nI (c))), (2, .int (nI (b))), (3, .long (lN (p))), (5, .long (lN (W b c))), (7, .long (lN (p - W b c))), (9, .int (nI (j)))] [] 0 0 (fun ans h' => ans = none ∧ ∃ L', h' = (sh0, I, L', R) ∧ wk L' (wSub W p c b (n + 1)) n ∧ lK 80 99 L L') := by
  intro k9
  induction k9 using Nat.strongRecOn with
  | _ k9 ih =>
    intro j hi hk9 L1  hcj hd hl
    have hf := hlt b c hb (by omega)
    have hj1 : j < n + 1 → W b j < p := fun g => hlt b j hb g
    have hj2 : j < n + 1 → W c j < p := fun g => hlt c j (by omega) g
    have hmm : j < n + 1 → W b j + (p - W b c) * W c j < 2 ^ 63 := fun g => by
      have := hj1 g
      have := hj2 g
      have : (p - W b c) * W c j ≤ 1073741824 * 1073741824 := Nat.mul_le_mul (by omega) (by omega)
      omega
    refine aX_iload dX6_subtractRow_27 rfl ?_
    refine aX_aload_n dX6_subtractRow_29 rfl ?_
    refine aX_get dX6_subtractRow_30 lfX6_35 s77 (f77_0 hR) ?_
    refine aX_get (v := .int (nI (n))) dX6_subtractRow_33 lfX6_56 s53 (congrArg Value.int (hn)) ?_
    refine nGt (tgt := 78) dX6_subtractRow_36 (by decide) (by first | omega | exact Nat.lt_of_le_of_lt (Nat.mod_le _ _) (by omega)) (by first | omega | exact Nat.lt_of_le_of_lt (Nat.mod_le _ _) (by omega)) (fun c1 => ?_) (fun c1 => ?_)
    · exact rV dX6_subtractRow_78 rfl (⟨rfl, L1, rfl, by rw [show j = n + 1 by omega] at hd; exact hd, hl⟩)
    · refine aX_aload_n dX6_subtractRow_39 rfl ?_
      refine aX_get dX6_subtractRow_40 lfX6_19 s77 (f77_2 hR) ?_
      refine aX_iload_n dX6_subtractRow_43 rfl ?_
      refine nAald (r := 80 + b) dX6_subtractRow_44 s79 (by decide) (by first | omega | exact Nat.lt_of_le_of_lt (Nat.mod_le _ _) (by omega)) (by decide) (r79 hR b (by omega)) ?_
      refine aX_iload dX6_subtractRow_45 rfl ?_
      refine aX_aload_n dX6_subtractRow_47 rfl ?_
      refine aX_get dX6_subtractRow_48 lfX6_19 s77 (f77_2 hR) ?_
      refine aX_iload_n dX6_subtractRow_51 rfl ?_
      refine nAald (r := 80 + b) dX6_subtractRow_52 s79 (by decide) (by first | omega | exact Nat.lt_of_le_of_lt (Nat.mod_le _ _) (by omega)) (by decide) (r79 hR b (by omega)) ?_
      refine aX_iload dX6_subtractRow_53 rfl ?_
      refine nLald (v := lN (W b j)) dX6_subtractRow_55 (s79r b (by omega)) (by first | omega | exact Nat.lt_of_le_of_lt (Nat.mod_le _ _) (by omega)) (by decide) ((hd b j (by omega) (by omega)).trans (by unfold wSub; rw [if_neg (by omega)])) ?_
      refine aX_lload dX6_subtractRow_56 rfl ?_
      refine aX_aload_n dX6_subtractRow_58 rfl ?_
      refine aX_get dX6_subtractRow_59 lfX6_19 s77 (f77_2 hR) ?_
      refine aX_iload_n dX6_subtractRow_62 rfl ?_
      refine nAald (r := 80 + c) dX6_subtractRow_63 s79 (by decide) (by first | omega | exact Nat.lt_of_le_of_lt (Nat.mod_le _ _) (by omega)) (by decide) (r79 hR c (by omega)) ?_
      refine aX_iload dX6_subtractRow_64 rfl ?_
      refine nLald (v := lN (W c j)) dX6_subtractRow_66 (s79r c (by omega)) (by first | omega | exact Nat.lt_of_le_of_lt (Nat.mod_le _ _) (by omega)) (by decide) ((hd c j (by omega) (by omega)).trans (by unfold wSub; rw [if_neg (by omega)])) ?_
      refine kMul dX6_subtractRow_67 ?_
      refine kAdd dX6_subtractRow_68 ?_
      refine aX_lload_n dX6_subtractRow_69 rfl ?_
      refine kRem dX6_subtractRow_70 (by exact hmm (by omega)) (by first | omega | exact Nat.lt_of_le_of_lt (Nat.mod_le _ _) (by omega)) (by first | omega | exact Nat.lt_of_le_of_lt (Nat.mod_le _ _) (by omega)) ?_
      refine nLast dX6_subtractRow_71 (s79r b (by omega)) (by first | omega | exact Nat.lt_of_le_of_lt (Nat.mod_le _ _) (by omega)) (by decide) ?_
      refine nInc (lv' := [(0, .ref 77), (1, .int (nI (c))), (2, .int (nI (b))), (3, .long (lN (p))), (5, .long (lN (W b c))), (7, .long (lN (p - W b c))), (9, .int (nI (j + 1)))]) dX6_subtractRow_72 rfl rfl (by decide) rfl ?_
      refine aX_goto (tgt := 27) dX6_subtractRow_75 (by decide) ?_
      exact ih (n + 1 - (j + 1)) (by omega) (j + 1) (by omega) rfl _ (by omega) (by
        refine wk_set hd (fun x y hx hy => ?_)
        unfold wSub
        by_cases e : x = b ∧ y = j
        · rw [if_pos e, if_pos ⟨e.1, by omega, by omega⟩, e.2]
        · rw [if_neg e]
          by_cases e1 : x = b ∧ c ≤ y ∧ y < j
          · rw [if_pos e1, if_pos ⟨e1.1, e1.2.1, by omega⟩]
          · rw [if_neg e1, if_neg (by omega)]) (lK_set hl (by omega) (by omega))
set_option maxHeartbeats 1000000 in
theorem c_subtractRow {I : Nat → Nat → Int32} {L : Nat → Nat → Int64} {R : Nat → Nat → Option Nat} (hR : aRf R) {n : Nat} (hn : I 53 4 = nI n) (hn20 : n ≤ 20) {W : Nx} (hw : wk L W n) {p : Nat} (hp : 2 ≤ p) (hp2 : p ≤ 1073741824) (hlt : ∀ i j, i < n → j < n + 1 → W i j < p) {c b : Nat} (hc : c < b) (hb : b < n) : aM mX6_subtractRow [.ref 77, .int (nI c), .int (nI b), .long (lN p)] (sh0, I, L, R) (fun ans h' => ans = none ∧ ∃ L', h' = (sh0, I, L', R) ∧ wk L' (wSub W p c b (n + 1)) n ∧ lK 80 99 L L') := by
  have hf := hlt b c hb (by omega)
  refine aM_of plX6_subtractRow (Nat.le_of_ble_eq_true rfl) ?_
  refine aX_aload_n dX6_subtractRow_0 rfl ?_
  refine aX_get dX6_subtractRow_1 lfX6_19 s77 (f77_2 hR) ?_
  refine aX_iload_n dX6_subtractRow_4 rfl ?_
  refine nAald (r := 80 + b) dX6_subtractRow_5 s79 (by decide) (by first | omega | exact Nat.lt_of_le_of_lt (Nat.mod_le _ _) (by omega)) (by decide) (r79 hR b (by omega)) ?_
  refine aX_iload_n dX6_subtractRow_6 rfl ?_
  refine nLald (v := lN (W b c)) dX6_subtractRow_7 (s79r b (by omega)) (by first | omega | exact Nat.lt_of_le_of_lt (Nat.mod_le _ _) (by omega)) (by decide) (hw b c hb (by omega)) ?_
  refine aX_lstore (lv' := [(0, .ref 77), (1, .int (nI (c))), (2, .int (nI (b))), (3, .long (lN (p))), (5, .long (lN (W b c)))]) dX6_subtractRow_8 (by decide) rfl ?_
  refine aX_lload dX6_subtractRow_10 rfl ?_
  refine aX_lconst (v := lN 0) dX6_subtractRow_12 rfl ?_
  refine aX_lcmp dX6_subtractRow_13 ?_
  refine kIf_ne (tgt := 18) dX6_subtractRow_14 (by decide) (by first | omega | exact Nat.lt_of_le_of_lt (Nat.mod_le _ _) (by omega)) (by first | omega | exact Nat.lt_of_le_of_lt (Nat.mod_le _ _) (by omega)) (fun c1 => ?_) (fun c1 => ?_)
  · refine aX_lload_n dX6_subtractRow_18 rfl ?_
    refine aX_lload dX6_subtractRow_19 rfl ?_
    refine kSub dX6_subtractRow_21 (by first | omega | exact Nat.lt_of_le_of_lt (Nat.mod_le _ _) (by omega)) ?_
    refine aX_lstore (lv' := [(0, .ref 77), (1, .int (nI (c))), (2, .int (nI (b))), (3, .long (lN (p))), (5, .long (lN (W b c))), (7, .long (lN (p - (W b c))))]) dX6_subtractRow_22 (by decide) rfl ?_
    refine aX_iload_n dX6_subtractRow_24 rfl ?_
    refine aX_istore (lv' := [(0, .ref 77), (1, .int (nI (c))), (2, .int (nI (b))), (3, .long (lN (p))), (5, .long (lN (W b c))), (7, .long (lN (p - (W b c)))), (9, .int (nI (c)))]) dX6_subtractRow_25 (by decide) rfl ?_
    exact l_sub hR hn hn20 hw hp hp2 hlt hc hb _ c (by omega) rfl L (Nat.le_refl _) (fun x y hx hy => by rw [hw x y hx hy]; unfold wSub; rw [if_neg (by omega)]) lK_refl
  · exact rV dX6_subtractRow_17 rfl (⟨rfl, L, rfl, fun x y hx hy => by
        rw [hw x y hx hy]; unfold wSub
        by_cases e : x = b ∧ c ≤ y ∧ y < n + 1
        · rw [if_pos e, e.1, show W b c = 0 by omega, Nat.sub_zero, Nat.add_mul_mod_self_left, Nat.mod_eq_of_lt (hlt b y hb hy)]
        · rw [if_neg e], lK_refl⟩)
