/-! THE REFERENCE: longs by a prime, primes -/
theorem tmod_emod {v p : Int} (hp : 0 < p) : v % p = if v.tmod p < 0 then v.tmod p + p else v.tmod p := by
  by_cases hv : v < 0
  · have h := emod_neg' hp hv
    have h2 : v.tmod p ≤ 0 := by
      have := Int.tmod_nonneg p (show 0 ≤ -v by omega)
      rw [Int.neg_tmod] at this; omega
    rw [h]
    by_cases e : v.tmod p = 0
    · rw [if_pos e, if_neg (by omega), e]
    · rw [if_neg e, if_pos (by omega)]
  · have h := Int.tmod_nonneg p (show 0 ≤ v by omega)
    rw [if_neg (by omega), Int.tmod_eq_emod_of_nonneg (by omega)]
set_option maxHeartbeats 1000000 in
theorem m_mod {h : aH} {v : Int} {p : Nat} (hv1 : -9223372036854775808 ≤ v) (hv2 : v < 9223372036854775808) (hp : 0 < p) (hp2 : p < 2 ^ 63) : aMp mX11_mod [.ref 159, .long (lZ v), .long (lN p)] h (.long (lN (v % p).toNat)) := by
  have he := tmod_emod (v := v) (show (0 : Int) < p by omega)
  have hr1 := Int.emod_nonneg v (show (p : Int) ≠ 0 by omega)
  have hr2 := Int.emod_lt_of_pos v (show (0 : Int) < p by omega)
  have htb : -9223372036854775808 ≤ v.tmod p ∧ v.tmod p < 9223372036854775808 := by
    by_cases z : v.tmod p < 0
    · rw [if_pos z] at he; omega
    · rw [if_neg z] at he; omega
  refine aM_of plX11_mod (Nat.le_of_ble_eq_true rfl) ?_
  refine aX_lload_n dX11_mod_0 rfl ?_
  refine aX_lload_n dX11_mod_1 rfl ?_
  refine yRem (a := v) (b := (p : Int)) dX11_mod_2 rfl (kZ _) hv1 hv2 (by omega) (by omega) ?_
  refine aX_lstore (lv' := [(0, .ref 159), (1, .long (lZ (v))), (3, .long (lN (p))), (5, .long (lZ (v.tmod p)))]) dX11_mod_3 (by decide) rfl ?_
  refine aX_lload dX11_mod_5 rfl ?_
  refine aX_lconst (v := lN 0) dX11_mod_7 rfl ?_
  refine aX_lcmp dX11_mod_8 ?_
  refine lIf_ge (tgt := 19) dX11_mod_9 (by decide) (fun c1 => ?_) (fun c1 => ?_)
  · have hz : ¬ v.tmod p < 0 := by
      have z := c1
      rw [show (lN 0 : Int64) = lZ 0 from rfl, lZ_le (by decide) (by decide) htb.1 htb.2] at z
      omega
    refine aX_lload dX11_mod_19 rfl ?_
    exact rL dX11_mod_21 rfl (⟨rfl, by rw [if_neg hz] at he; rw [← he, kZ, Int.toNat_of_nonneg hr1]⟩)
  · have hz :  v.tmod p < 0 := by
      have z := c1
      rw [show (lN 0 : Int64) = lZ 0 from rfl, lZ_le (by decide) (by decide) htb.1 htb.2] at z
      omega
    refine aX_lload dX11_mod_12 rfl ?_
    refine aX_lload_n dX11_mod_14 rfl ?_
    refine yAdd (a := v.tmod p) (b := ((p : Nat) : Int)) dX11_mod_15 (rfl) (kZ _) ?_
    refine aX_goto (tgt := 21) dX11_mod_16 (by decide) ?_
    exact rL dX11_mod_21 rfl (⟨rfl, by rw [if_pos hz] at he; rw [← he, kZ, Int.toNat_of_nonneg hr1]⟩)
theorem pow_half (b e p : Nat) : (b * b % p) ^ (e / 2 ^ 1) % p = b ^ (2 * (e / 2)) % p := by
  rw [← Nat.pow_mod, Nat.pow_mul, show b ^ 2 = b * b by rw [Nat.pow_succ, Nat.pow_one]]
theorem pow_odd {r b e p : Nat} (h : e % 2 = 1) : r * b ^ e % p = r * b % p * (b * b % p) ^ (e / 2 ^ 1) % p := by
  have h1 : b ^ e = b * b ^ (2 * (e / 2)) := by
    rw [show e = 2 * (e / 2) + 1 by omega, Nat.pow_succ, Nat.mul_comm b, show 2 * ((2 * (e / 2) + 1) / 2) = 2 * (e / 2) by omega]
  rw [Nat.mul_mod (r * b % p), pow_half, Nat.mod_mod, ← Nat.mul_mod, h1, Nat.mul_assoc]
theorem pow_even {r b e p : Nat} (h : ¬ e % 2 = 1) : r * b ^ e % p = r * (b * b % p) ^ (e / 2 ^ 1) % p := by
  have h1 : b ^ e = b ^ (2 * (e / 2)) := by rw [show 2 * (e / 2) = e by omega]
  rw [Nat.mul_mod r ((b * b % p) ^ (e / 2 ^ 1)), pow_half, ← Nat.mul_mod, h1]
set_option maxHeartbeats 1000000 in
theorem ml_inverse {h : aH} {a p : Nat} (hp : 2 ≤ p) (hp2 : p ≤ 2147483648) : ∀ (e r b : Nat), r < p → b < p → e < 2 ^ 31 → r * b ^ e % p = a ^ (p - 2) % p → aX mX11_inverse aE0 h 13 [(0, .ref 159), (1, .long (lN a)), (3, .long (lN p)), (5, .long (lN r)), (7, .long (lN b)), (9, .long (lN e))] [] 0 0 (fun ans h' => h' = h ∧ ans = some (.long (lN (a ^ (p - 2) % p)))) := by
  intro e
  induction e using Nat.strongRecOn with
  | _ e ih =>
    intro r b hrl hbl hel hr
    have hm1 := mul_lt62 hrl hbl hp2
    have hm2 := mul_lt62 hbl hbl hp2
    refine aX_lload dX11_inverse_13 rfl ?_
    refine aX_lconst (v := lN 0) dX11_inverse_15 rfl ?_
    refine aX_lcmp dX11_inverse_16 ?_
    refine kIf_le (tgt := 61) dX11_inverse_17 (by decide) (by first | omega | exact Nat.lt_of_le_of_lt (Nat.mod_le _ _) (by omega)) (by first | omega | exact Nat.lt_of_le_of_lt (Nat.mod_le _ _) (by omega)) (fun c1 => ?_) (fun c1 => ?_)
    · refine aX_lload dX11_inverse_61 rfl ?_
      exact rL dX11_inverse_63 rfl (⟨rfl, by rw [← hr, show e = 0 by omega, Nat.pow_zero, Nat.mul_one, Nat.mod_eq_of_lt hrl]⟩)
    · refine aX_lload dX11_inverse_20 rfl ?_
      refine aX_lconst (v := lN 1) dX11_inverse_22 rfl ?_
      refine kAnd 1 dX11_inverse_23 rfl (by decide) (by first | omega | exact Nat.lt_of_le_of_lt (Nat.mod_le _ _) (by omega)) rfl ?_
      refine aX_lconst (v := lN 1) dX11_inverse_24 rfl ?_
      refine aX_lcmp dX11_inverse_25 ?_
      refine kIf_ne (tgt := 39) dX11_inverse_26 (by decide) (by first | omega | exact Nat.lt_of_le_of_lt (Nat.mod_le _ _) (by omega)) (by first | omega | exact Nat.lt_of_le_of_lt (Nat.mod_le _ _) (by omega)) (fun c2 => ?_) (fun c2 => ?_)
      · have hb : ¬ e % 2 = 1 := by
          have z := c2
          rw [show (2 : Nat) ^ 1 = 2 from rfl] at z; exact z
        refine aX_lload dX11_inverse_39 rfl ?_
        refine aX_lstore (lv' := [(0, .ref 159), (1, .long (lN (a))), (3, .long (lN (p))), (5, .long (lN (r))), (7, .long (lN (b))), (9, .long (lN (e)))]) dX11_inverse_41 (by decide) rfl ?_
        refine aX_lload dX11_inverse_43 rfl ?_
        refine aX_lload dX11_inverse_45 rfl ?_
        refine kMul dX11_inverse_47 ?_
        refine aX_lload_n dX11_inverse_48 rfl ?_
        refine kRem dX11_inverse_49 (by first | omega | exact Nat.lt_of_le_of_lt (Nat.mod_le _ _) (by omega)) (by first | omega | exact Nat.lt_of_le_of_lt (Nat.mod_le _ _) (by omega)) (by first | omega | exact Nat.lt_of_le_of_lt (Nat.mod_le _ _) (by omega)) ?_
        refine aX_lstore (lv' := [(0, .ref 159), (1, .long (lN (a))), (3, .long (lN (p))), (5, .long (lN (r))), (7, .long (lN ((b * b) % p))), (9, .long (lN (e)))]) dX11_inverse_50 (by decide) rfl ?_
        refine aX_lload dX11_inverse_52 rfl ?_
        refine aX_iconst (v := nI 1) dX11_inverse_54 (by decide) ?_
        refine kShr dX11_inverse_55 (by first | omega | exact Nat.lt_of_le_of_lt (Nat.mod_le _ _) (by omega)) (by first | omega | exact Nat.lt_of_le_of_lt (Nat.mod_le _ _) (by omega)) ?_
        refine aX_lstore (lv' := [(0, .ref 159), (1, .long (lN (a))), (3, .long (lN (p))), (5, .long (lN (r))), (7, .long (lN ((b * b) % p))), (9, .long (lN (e / 2 ^ 1)))]) dX11_inverse_56 (by decide) rfl ?_
        refine aX_goto (tgt := 13) dX11_inverse_58 (by decide) ?_
        exact ih (e / 2 ^ 1) (by omega) r (b * b % p) hrl (Nat.mod_lt _ (by omega)) (by omega) ((pow_even hb).symm.trans hr)
      · have hb : e % 2 = 1 := by
          have z := c2
          rw [show (2 : Nat) ^ 1 = 2 from rfl] at z; exact z
        refine aX_lload dX11_inverse_29 rfl ?_
        refine aX_lload dX11_inverse_31 rfl ?_
        refine kMul dX11_inverse_33 ?_
        refine aX_lload_n dX11_inverse_34 rfl ?_
        refine kRem dX11_inverse_35 (by first | omega | exact Nat.lt_of_le_of_lt (Nat.mod_le _ _) (by omega)) (by first | omega | exact Nat.lt_of_le_of_lt (Nat.mod_le _ _) (by omega)) (by first | omega | exact Nat.lt_of_le_of_lt (Nat.mod_le _ _) (by omega)) ?_
        refine aX_goto (tgt := 41) dX11_inverse_36 (by decide) ?_
        refine aX_lstore (lv' := [(0, .ref 159), (1, .long (lN (a))), (3, .long (lN (p))), (5, .long (lN ((r * b) % p))), (7, .long (lN (b))), (9, .long (lN (e)))]) dX11_inverse_41 (by decide) rfl ?_
        refine aX_lload dX11_inverse_43 rfl ?_
        refine aX_lload dX11_inverse_45 rfl ?_
        refine kMul dX11_inverse_47 ?_
        refine aX_lload_n dX11_inverse_48 rfl ?_
        refine kRem dX11_inverse_49 (by first | omega | exact Nat.lt_of_le_of_lt (Nat.mod_le _ _) (by omega)) (by first | omega | exact Nat.lt_of_le_of_lt (Nat.mod_le _ _) (by omega)) (by first | omega | exact Nat.lt_of_le_of_lt (Nat.mod_le _ _) (by omega)) ?_
        refine aX_lstore (lv' := [(0, .ref 159), (1, .long (lN (a))), (3, .long (lN (p))), (5, .long (lN ((r * b) % p))), (7, .long (lN ((b * b) % p))), (9, .long (lN (e)))]) dX11_inverse_50 (by decide) rfl ?_
        refine aX_lload dX11_inverse_52 rfl ?_
        refine aX_iconst (v := nI 1) dX11_inverse_54 (by decide) ?_
        refine kShr dX11_inverse_55 (by first | omega | exact Nat.lt_of_le_of_lt (Nat.mod_le _ _) (by omega)) (by first | omega | exact Nat.lt_of_le_of_lt (Nat.mod_le _ _) (by omega)) ?_
        refine aX_lstore (lv' := [(0, .ref 159), (1, .long (lN (a))), (3, .long (lN (p))), (5, .long (lN ((r * b) % p))), (7, .long (lN ((b * b) % p))), (9, .long (lN (e / 2 ^ 1)))]) dX11_inverse_56 (by decide) rfl ?_
        refine aX_goto (tgt := 13) dX11_inverse_58 (by decide) ?_
        exact ih (e / 2 ^ 1) (by omega) (r * b % p) (b * b % p) (Nat.mod_lt _ (by omega)) (Nat.mod_lt _ (by omega)) (by omega) ((pow_odd hb).symm.trans hr)
set_option maxHeartbeats 1000000 in
theorem m_inverse {h : aH} {a p : Nat} (hp : 2 ≤ p) (hp2 : p ≤ 2147483648) (ha : a < p) : aMp mX11_inverse [.ref 159, .long (lN a), .long (lN p)] h (.long (lN (a ^ (p - 2) % p))) := by
  refine aM_of plX11_inverse (Nat.le_of_ble_eq_true rfl) ?_
  refine aX_lconst (v := lN 1) dX11_inverse_0 rfl ?_
  refine aX_lstore (lv' := [(0, .ref 159), (1, .long (lN (a))), (3, .long (lN (p))), (5, .long (lN (1)))]) dX11_inverse_1 (by decide) rfl ?_
  refine aX_lload_n dX11_inverse_3 rfl ?_
  refine aX_lstore (lv' := [(0, .ref 159), (1, .long (lN (a))), (3, .long (lN (p))), (5, .long (lN (1))), (7, .long (lN (a)))]) dX11_inverse_4 (by decide) rfl ?_
  refine aX_lload_n dX11_inverse_6 rfl ?_
  refine aX_ldc2 (v := lN 2) dX11_inverse_7 lkX11_222 ?_
  refine kSub dX11_inverse_10 (by first | omega | exact Nat.lt_of_le_of_lt (Nat.mod_le _ _) (by omega)) ?_
  refine aX_lstore (lv' := [(0, .ref 159), (1, .long (lN (a))), (3, .long (lN (p))), (5, .long (lN (1))), (7, .long (lN (a))), (9, .long (lN (p - 2)))]) dX11_inverse_11 (by decide) rfl ?_
  exact ml_inverse hp hp2 (p - 2) 1 a (by omega) ha (by omega) (by rw [Nat.one_mul])
set_option maxHeartbeats 1000000 in
theorem ml_isPrime {h : aH} {p : Nat} (hp3 : 3 ≤ p) (hpo : p % 2 = 1) (hp2 : p < 2147483648) : ∀ (k9 d : Nat), 50000 - d = k9 → 3 ≤ d → d % 2 = 1 → d < 46344 → (∀ c, 3 ≤ c → c < d → c % 2 = 1 → ¬ c ∣ p) → aX mX11_isPrime aE0 h 4 [(0, .ref 159), (1, .long (lN p)), (3, .long (lN d))] [] 0 0 (fun ans h' => h' = h ∧ ∃ b, ans = some (.int (bI b)) ∧ (b = true ↔ isP p)) := by
  intro k9
  induction k9 using Nat.strongRecOn with
  | _ k9 ih =>
    intro d hk9 hd3 hdo hdl hno
    have hdd : d * d < 2 ^ 62 := by
      have := Nat.mul_le_mul (show d ≤ 46344 by omega) (show d ≤ 46344 by omega)
      omega
    refine aX_lload_n dX11_isPrime_4 rfl ?_
    refine aX_lload_n dX11_isPrime_5 rfl ?_
    refine kMul dX11_isPrime_6 ?_
    refine aX_lload_n dX11_isPrime_7 rfl ?_
    refine aX_lcmp dX11_isPrime_8 ?_
    refine kIf_gt (tgt := 31) dX11_isPrime_9 (by decide) (by first | omega | exact Nat.lt_of_le_of_lt (Nat.mod_le _ _) (by omega)) (by first | omega | exact Nat.lt_of_le_of_lt (Nat.mod_le _ _) (by omega)) (fun c1 => ?_) (fun c1 => ?_)
    · refine aX_iconst (v := nI 1) dX11_isPrime_31 (by decide) ?_
      exact rZ dX11_isPrime_32 rfl (Or.inr rfl) (⟨rfl, true, rfl, ⟨fun _ => prime_of hp3 hpo (fun c h1 h2 h3 => hno c h1 (by
            refine Nat.lt_of_not_le (fun z => ?_)
            have := Nat.mul_le_mul z z
            omega) h3), fun _ => rfl⟩⟩)
    · refine aX_lload_n dX11_isPrime_12 rfl ?_
      refine aX_lload_n dX11_isPrime_13 rfl ?_
      refine kRem dX11_isPrime_14 (by first | omega | exact Nat.lt_of_le_of_lt (Nat.mod_le _ _) (by omega)) (by first | omega | exact Nat.lt_of_le_of_lt (Nat.mod_le _ _) (by omega)) (by first | omega | exact Nat.lt_of_le_of_lt (Nat.mod_le _ _) (by omega)) ?_
      refine aX_lconst (v := lN 0) dX11_isPrime_15 rfl ?_
      refine aX_lcmp dX11_isPrime_16 ?_
      refine kIf_ne (tgt := 22) dX11_isPrime_17 (by decide) (by first | omega | exact Nat.lt_of_le_of_lt (Nat.mod_le _ _) (by omega)) (by first | omega | exact Nat.lt_of_le_of_lt (Nat.mod_le _ _) (by omega)) (fun c2 => ?_) (fun c2 => ?_)
      · refine aX_lload_n dX11_isPrime_22 rfl ?_
        refine aX_ldc2 (v := lN 2) dX11_isPrime_23 lkX11_222 ?_
        refine kAdd dX11_isPrime_26 ?_
        refine aX_lstore_n (lv' := [(0, .ref 159), (1, .long (lN (p))), (3, .long (lN (d + 2)))]) dX11_isPrime_27 (by decide) rfl ?_
        refine aX_goto (tgt := 4) dX11_isPrime_28 (by decide) ?_
        have hd4 : d < 46342 := Nat.lt_of_not_le (fun z => by have := Nat.mul_le_mul z z; omega)
        exact ih (50000 - (d + 2)) (by omega) (d + 2) rfl (by omega) (by omega) (by omega) (fun c h1 h2 h3 => by
          by_cases e : c = d
          · subst e; exact fun z => absurd (Nat.mod_eq_zero_of_dvd z) (by omega)
          · exact hno c h1 (by omega) h3)
      · refine aX_iconst (v := nI 0) dX11_isPrime_20 (by decide) ?_
        exact rZ dX11_isPrime_21 rfl (Or.inl rfl) (⟨rfl, false, rfl, ⟨fun g => absurd g Bool.false_ne_true, fun g => by
              rcases g.2 d (Nat.dvd_of_mod_eq_zero (by omega)) with z | z
              · omega
              · subst z
                have : 3 * d ≤ d * d := Nat.mul_le_mul_right d hd3
                omega⟩⟩)
set_option maxHeartbeats 1000000 in
theorem m_isPrime {h : aH} {p : Nat} (hp3 : 3 ≤ p) (hpo : p % 2 = 1) (hp2 : p < 2147483648) : aM mX11_isPrime [.ref 159, .long (lN p)] h (fun ans h' => h' = h ∧ ∃ b, ans = some (.int (bI b)) ∧ (b = true ↔ isP p)) := by
  refine aM_of plX11_isPrime (Nat.le_of_ble_eq_true rfl) ?_
  refine aX_ldc2 (v := lN 3) dX11_isPrime_0 lkX11_228 ?_
  refine aX_lstore_n (lv' := [(0, .ref 159), (1, .long (lN (p))), (3, .long (lN (3)))]) dX11_isPrime_3 (by decide) rfl ?_
  exact ml_isPrime hp3 hpo hp2 _ 3 rfl (by omega) (by decide) (by omega) (fun c h1 h2 => by omega)
theorem isP_2147483647 : isP 2147483647 := prime_tdiv (k := 23169) (by decide) (by decide) (by decide) (by decide +kernel)
theorem isP_2147483629 : isP 2147483629 := prime_tdiv (k := 23169) (by decide) (by decide) (by decide) (by decide +kernel)
theorem isP_2147483587 : isP 2147483587 := prime_tdiv (k := 23169) (by decide) (by decide) (by decide) (by decide +kernel)
theorem isP_2147483579 : isP 2147483579 := prime_tdiv (k := 23169) (by decide) (by decide) (by decide) (by decide +kernel)
theorem isP_2147483563 : isP 2147483563 := prime_tdiv (k := 23169) (by decide) (by decide) (by decide) (by decide +kernel)
theorem isP_2147483549 : isP 2147483549 := prime_tdiv (k := 23169) (by decide) (by decide) (by decide) (by decide +kernel)
theorem isP_2147483543 : isP 2147483543 := prime_tdiv (k := 23169) (by decide) (by decide) (by decide) (by decide +kernel)
theorem isP_2147483497 : isP 2147483497 := prime_tdiv (k := 23169) (by decide) (by decide) (by decide) (by decide +kernel)
theorem isP_2147483489 : isP 2147483489 := prime_tdiv (k := 23169) (by decide) (by decide) (by decide) (by decide +kernel)
theorem isP_2147483477 : isP 2147483477 := prime_tdiv (k := 23169) (by decide) (by decide) (by decide) (by decide +kernel)
theorem isP_2147483423 : isP 2147483423 := prime_tdiv (k := 23169) (by decide) (by decide) (by decide) (by decide +kernel)
theorem isP_2147483399 : isP 2147483399 := prime_tdiv (k := 23169) (by decide) (by decide) (by decide) (by decide +kernel)
theorem isP_2147483353 : isP 2147483353 := prime_tdiv (k := 23169) (by decide) (by decide) (by decide) (by decide +kernel)
theorem isP_2147483323 : isP 2147483323 := prime_tdiv (k := 23169) (by decide) (by decide) (by decide) (by decide +kernel)
theorem isP_2147483269 : isP 2147483269 := prime_tdiv (k := 23169) (by decide) (by decide) (by decide) (by decide +kernel)
theorem isP_2147483249 : isP 2147483249 := prime_tdiv (k := 23169) (by decide) (by decide) (by decide) (by decide +kernel)
theorem isP_2147483237 : isP 2147483237 := prime_tdiv (k := 23169) (by decide) (by decide) (by decide) (by decide +kernel)
theorem isP_2147483179 : isP 2147483179 := prime_tdiv (k := 23169) (by decide) (by decide) (by decide) (by decide +kernel)
theorem isP_2147483171 : isP 2147483171 := prime_tdiv (k := 23169) (by decide) (by decide) (by decide) (by decide +kernel)
theorem isP_2147483137 : isP 2147483137 := prime_tdiv (k := 23169) (by decide) (by decide) (by decide) (by decide +kernel)
theorem isP_2147483123 : isP 2147483123 := prime_tdiv (k := 23169) (by decide) (by decide) (by decide) (by decide +kernel)
theorem isP_2147483077 : isP 2147483077 := prime_tdiv (k := 23169) (by decide) (by decide) (by decide) (by decide +kernel)
theorem wit_P : ∀ k, k < 22 → isP (wit k)
  | 0, _ => isP_2147483647
  | 1, _ => isP_2147483629
  | 2, _ => isP_2147483587
  | 3, _ => isP_2147483579
  | 4, _ => isP_2147483563
  | 5, _ => isP_2147483549
  | 6, _ => isP_2147483543
  | 7, _ => isP_2147483497
  | 8, _ => isP_2147483489
  | 9, _ => isP_2147483477
  | 10, _ => isP_2147483423
  | 11, _ => isP_2147483399
  | 12, _ => isP_2147483353
  | 13, _ => isP_2147483323
  | 14, _ => isP_2147483269
  | 15, _ => isP_2147483249
  | 16, _ => isP_2147483237
  | 17, _ => isP_2147483179
  | 18, _ => isP_2147483171
  | 19, _ => isP_2147483137
  | 20, _ => isP_2147483123
  | 21, _ => isP_2147483077
  | n + 22, h => absurd h (by omega)
theorem wit_in : ∀ k, k < 22 → wit k % 2 = 1 ∧ 2147483000 < wit k ∧ wit k < 2147483648
  | 0, _ => by decide
  | 1, _ => by decide
  | 2, _ => by decide
  | 3, _ => by decide
  | 4, _ => by decide
  | 5, _ => by decide
  | 6, _ => by decide
  | 7, _ => by decide
  | 8, _ => by decide
  | 9, _ => by decide
  | 10, _ => by decide
  | 11, _ => by decide
  | 12, _ => by decide
  | 13, _ => by decide
  | 14, _ => by decide
  | 15, _ => by decide
  | 16, _ => by decide
  | 17, _ => by decide
  | 18, _ => by decide
  | 19, _ => by decide
  | 20, _ => by decide
  | 21, _ => by decide
  | n + 22, h => absurd h (by omega)
theorem wit_dn : ∀ k, k < 21 → wit (k + 1) + 2 ≤ wit k
  | 0, _ => by decide
  | 1, _ => by decide
  | 2, _ => by decide
  | 3, _ => by decide
  | 4, _ => by decide
  | 5, _ => by decide
  | 6, _ => by decide
  | 7, _ => by decide
  | 8, _ => by decide
  | 9, _ => by decide
  | 10, _ => by decide
  | 11, _ => by decide
  | 12, _ => by decide
  | 13, _ => by decide
  | 14, _ => by decide
  | 15, _ => by decide
  | 16, _ => by decide
  | 17, _ => by decide
  | 18, _ => by decide
  | 19, _ => by decide
  | 20, _ => by decide
  | n + 21, h => absurd h (by omega)
set_option maxHeartbeats 1000000 in
theorem ml_nextPrime {I : Nat → Nat → Int32} {L : Nat → Nat → Int64} {R : Nat → Nat → Option Nat} (hR : aRf R) {pc : Nat} {P : Nat → Nat} (h34 : I 159 34 = nI pc) (hpc : pc < 22) (hP : ∀ k, k < pc → L 187 k = lN (P k) ∧ isP (P k) ∧ P k % 2 = 1 ∧ wit k ≤ P k ∧ P k < 2147483648) : ∀ (q : Nat), q % 2 = 1 → wit pc ≤ q → q < 2147483648 → (0 < pc → q < P (pc - 1)) → aX mX11_nextPrime aE0 (sh0, I, L, R) 29 [(0, .ref 159), (1, .long (lN q))] [] 0 0 (fun ans h' => h' = (sh0, I, L, R) ∧ ∃ q, ans = some (.long (lN q)) ∧ isP q ∧ q % 2 = 1 ∧ wit pc ≤ q ∧ q < 2147483648 ∧ (0 < pc → q < P (pc - 1))) := by
  intro q
  induction q using Nat.strongRecOn with
  | _ q ih =>
    intro hqo hqw hq2 hlt
    have hwi := wit_in pc hpc
    refine aX_aload_n dX11_nextPrime_29 rfl ?_
    refine aX_lload_n dX11_nextPrime_30 rfl ?_
    refine cV (As := [.long (lN (q))]) (st := []) dX11_nextPrime_31 kX11_nextPrime_224 s159 aEok0 rfl rfl (Nat.le_of_ble_eq_true rfl) (m_isPrime (by omega) hqo hq2) (fun ans' h' hq9 => ?_)
    obtain ⟨rfl, b, rfl, hb⟩ := hq9
    refine ⟨rfl, ?_⟩
    refine bNe (tgt := 46) dX11_nextPrime_34 (by decide) (fun c1 => ?_) (fun c1 => ?_)
    · refine aX_lload_n dX11_nextPrime_46 rfl ?_
      exact rL dX11_nextPrime_47 rfl (⟨rfl, q, rfl, hb.mp c1, hqo, hqw, hq2, hlt⟩)
    · refine aX_lload_n dX11_nextPrime_37 rfl ?_
      refine aX_ldc2 (v := lN 2) dX11_nextPrime_38 lkX11_222 ?_
      refine kSub dX11_nextPrime_41 (by first | omega | exact Nat.lt_of_le_of_lt (Nat.mod_le _ _) (by omega)) ?_
      refine aX_lstore_n (lv' := [(0, .ref 159), (1, .long (lN (q - 2)))]) dX11_nextPrime_42 (by decide) rfl ?_
      refine aX_goto (tgt := 29) dX11_nextPrime_43 (by decide) ?_
      have hne : q ≠ wit pc := fun z => absurd (hb.mpr (z ▸ wit_P pc hpc)) (by rw [c1]; exact Bool.false_ne_true)
      exact ih (q - 2) (by omega) (by omega) (by omega) (by omega) (fun g => by have := hlt g; omega)
set_option maxHeartbeats 1000000 in
theorem m_nextPrime {I : Nat → Nat → Int32} {L : Nat → Nat → Int64} {R : Nat → Nat → Option Nat} (hR : aRf R) {pc : Nat} {P : Nat → Nat} (h34 : I 159 34 = nI pc) (hpc : pc < 22) (hP : ∀ k, k < pc → L 187 k = lN (P k) ∧ isP (P k) ∧ P k % 2 = 1 ∧ wit k ≤ P k ∧ P k < 2147483648) : aM mX11_nextPrime [.ref 159] (sh0, I, L, R) (fun ans h' => h' = (sh0, I, L, R) ∧ ∃ q, ans = some (.long (lN q)) ∧ isP q ∧ q % 2 = 1 ∧ wit pc ≤ q ∧ q < 2147483648 ∧ (0 < pc → q < P (pc - 1))) := by
  refine aM_of plX11_nextPrime (Nat.le_of_ble_eq_true rfl) ?_
  refine aX_aload_n dX11_nextPrime_0 rfl ?_
  refine aX_get (v := .int (nI (pc))) dX11_nextPrime_1 lfX11_217 s159 (congrArg Value.int (h34)) ?_
  refine nIf_ne (tgt := 13) dX11_nextPrime_4 (by decide) (by first | omega | exact Nat.lt_of_le_of_lt (Nat.mod_le _ _) (by omega)) (fun c1 => ?_) (fun c1 => ?_)
  · have hl1 := hP (pc - 1) (by omega)
    have hl2 := wit_in (pc - 1) (by omega)
    refine aX_aload_n dX11_nextPrime_13 rfl ?_
    refine aX_get dX11_nextPrime_14 lfX11_101 s159 (f159_35 hR) ?_
    refine aX_aload_n dX11_nextPrime_17 rfl ?_
    refine aX_get (v := .int (nI (pc))) dX11_nextPrime_18 lfX11_217 s159 (congrArg Value.int (h34)) ?_
    refine aX_iconst (v := nI 1) dX11_nextPrime_21 (by decide) ?_
    refine nSub dX11_nextPrime_22 (by first | omega | exact Nat.lt_of_le_of_lt (Nat.mod_le _ _) (by omega)) ?_
    refine nLald (v := lN (P (pc - 1))) dX11_nextPrime_23 s187 (by first | omega | exact Nat.lt_of_le_of_lt (Nat.mod_le _ _) (by omega)) (by decide) (hl1.1) ?_
    refine aX_ldc2 (v := lN 2) dX11_nextPrime_24 lkX11_222 ?_
    refine kSub dX11_nextPrime_27 (by first | omega | exact Nat.lt_of_le_of_lt (Nat.mod_le _ _) (by omega)) ?_
    refine aX_lstore_n (lv' := [(0, .ref 159), (1, .long (lN ((P (pc - 1)) - 2)))]) dX11_nextPrime_28 (by decide) rfl ?_
    exact ml_nextPrime hR h34 hpc hP (P (pc - 1) - 2) (by omega) (by have := wit_dn (pc - 1) (by omega); rw [show pc - 1 + 1 = pc by omega] at this; omega) (by omega) (fun g => by omega)
  · refine aX_ldc2 (v := lN 2147483647) dX11_nextPrime_7 lkX11_220 ?_
    refine aX_goto (tgt := 28) dX11_nextPrime_10 (by decide) ?_
    refine aX_lstore_n (lv' := [(0, .ref 159), (1, .long (lN (2147483647)))]) dX11_nextPrime_28 (by decide) rfl ?_
    exact ml_nextPrime hR h34 hpc hP 2147483647 (by decide) (by rw [show pc = 0 by omega]; decide) (by decide) (fun g => by omega)
