/-! THE PRIMES OF THE CLASS -/
def jMo (i : Nat) : Nat := ([1073741789, 1073741783, 1073741741, 1073741723, 1073741719, 1073741717, 1073741689, 1073741671, 1073741663, 1073741651, 1073741621, 1073741567, 1073741561, 1073741527, 1073741503, 1073741477, 1073741467, 1073741441, 1073741419, 1073741399] : List Nat).getD i 0
theorem isP_1073741789 : isP 1073741789 := prime_tdiv (k := 16383) (by decide) (by decide) (by decide) (by decide +kernel)
theorem isP_1073741783 : isP 1073741783 := prime_tdiv (k := 16383) (by decide) (by decide) (by decide) (by decide +kernel)
theorem isP_1073741741 : isP 1073741741 := prime_tdiv (k := 16383) (by decide) (by decide) (by decide) (by decide +kernel)
theorem isP_1073741723 : isP 1073741723 := prime_tdiv (k := 16383) (by decide) (by decide) (by decide) (by decide +kernel)
theorem isP_1073741719 : isP 1073741719 := prime_tdiv (k := 16383) (by decide) (by decide) (by decide) (by decide +kernel)
theorem isP_1073741717 : isP 1073741717 := prime_tdiv (k := 16383) (by decide) (by decide) (by decide) (by decide +kernel)
theorem isP_1073741689 : isP 1073741689 := prime_tdiv (k := 16383) (by decide) (by decide) (by decide) (by decide +kernel)
theorem isP_1073741671 : isP 1073741671 := prime_tdiv (k := 16383) (by decide) (by decide) (by decide) (by decide +kernel)
theorem isP_1073741663 : isP 1073741663 := prime_tdiv (k := 16383) (by decide) (by decide) (by decide) (by decide +kernel)
theorem isP_1073741651 : isP 1073741651 := prime_tdiv (k := 16383) (by decide) (by decide) (by decide) (by decide +kernel)
theorem isP_1073741621 : isP 1073741621 := prime_tdiv (k := 16383) (by decide) (by decide) (by decide) (by decide +kernel)
theorem isP_1073741567 : isP 1073741567 := prime_tdiv (k := 16383) (by decide) (by decide) (by decide) (by decide +kernel)
theorem isP_1073741561 : isP 1073741561 := prime_tdiv (k := 16383) (by decide) (by decide) (by decide) (by decide +kernel)
theorem isP_1073741527 : isP 1073741527 := prime_tdiv (k := 16383) (by decide) (by decide) (by decide) (by decide +kernel)
theorem isP_1073741503 : isP 1073741503 := prime_tdiv (k := 16383) (by decide) (by decide) (by decide) (by decide +kernel)
theorem isP_1073741477 : isP 1073741477 := prime_tdiv (k := 16383) (by decide) (by decide) (by decide) (by decide +kernel)
theorem isP_1073741467 : isP 1073741467 := prime_tdiv (k := 16383) (by decide) (by decide) (by decide) (by decide +kernel)
theorem isP_1073741441 : isP 1073741441 := prime_tdiv (k := 16383) (by decide) (by decide) (by decide) (by decide +kernel)
theorem isP_1073741419 : isP 1073741419 := prime_tdiv (k := 16383) (by decide) (by decide) (by decide) (by decide +kernel)
theorem isP_1073741399 : isP 1073741399 := prime_tdiv (k := 16383) (by decide) (by decide) (by decide) (by decide +kernel)
theorem jMo_P : ∀ i, i < 20 → isP (jMo i)
  | 0, _ => isP_1073741789
  | 1, _ => isP_1073741783
  | 2, _ => isP_1073741741
  | 3, _ => isP_1073741723
  | 4, _ => isP_1073741719
  | 5, _ => isP_1073741717
  | 6, _ => isP_1073741689
  | 7, _ => isP_1073741671
  | 8, _ => isP_1073741663
  | 9, _ => isP_1073741651
  | 10, _ => isP_1073741621
  | 11, _ => isP_1073741567
  | 12, _ => isP_1073741561
  | 13, _ => isP_1073741527
  | 14, _ => isP_1073741503
  | 15, _ => isP_1073741477
  | 16, _ => isP_1073741467
  | 17, _ => isP_1073741441
  | 18, _ => isP_1073741419
  | 19, _ => isP_1073741399
  | n + 20, h => absurd h (by omega)
theorem jMo_val : ∀ i, i < 20 → ([1073741789, 1073741783, 1073741741, 1073741723, 1073741719, 1073741717, 1073741689, 1073741671, 1073741663, 1073741651, 1073741621, 1073741567, 1073741561, 1073741527, 1073741503, 1073741477, 1073741467, 1073741441, 1073741419, 1073741399] : List Int32).getD i 0 = nI (jMo i)
  | 0, _ => rfl
  | 1, _ => rfl
  | 2, _ => rfl
  | 3, _ => rfl
  | 4, _ => rfl
  | 5, _ => rfl
  | 6, _ => rfl
  | 7, _ => rfl
  | 8, _ => rfl
  | 9, _ => rfl
  | 10, _ => rfl
  | 11, _ => rfl
  | 12, _ => rfl
  | 13, _ => rfl
  | 14, _ => rfl
  | 15, _ => rfl
  | 16, _ => rfl
  | 17, _ => rfl
  | 18, _ => rfl
  | 19, _ => rfl
  | n + 20, h => absurd h (by omega)
theorem jMo_in : ∀ i, i < 20 → 1073741398 < jMo i ∧ jMo i < 1073741824 ∧ jMo i % 2 = 1
  | 0, _ => by decide
  | 1, _ => by decide
  | 2, _ => by decide
  | 3, _ => by decide
  | 4, _ => by decide
  | 5, _ => by decide
  | 6, _ => by decide
  | 7, _ => by decide
  | 8, _ => by decide
  | 9, _ => by decide
  | 10, _ => by decide
  | 11, _ => by decide
  | 12, _ => by decide
  | 13, _ => by decide
  | 14, _ => by decide
  | 15, _ => by decide
  | 16, _ => by decide
  | 17, _ => by decide
  | 18, _ => by decide
  | 19, _ => by decide
  | n + 20, h => absurd h (by omega)
theorem jMo_lt : ∀ i, i < 19 → jMo (i + 1) < jMo i
  | 0, _ => by decide
  | 1, _ => by decide
  | 2, _ => by decide
  | 3, _ => by decide
  | 4, _ => by decide
  | 5, _ => by decide
  | 6, _ => by decide
  | 7, _ => by decide
  | 8, _ => by decide
  | 9, _ => by decide
  | 10, _ => by decide
  | 11, _ => by decide
  | 12, _ => by decide
  | 13, _ => by decide
  | 14, _ => by decide
  | 15, _ => by decide
  | 16, _ => by decide
  | 17, _ => by decide
  | 18, _ => by decide
  | n + 19, h => absurd h (by omega)
theorem jMo_mono {i j : Nat} (h : i < j) (hj : j < 20) : jMo j < jMo i := by
  induction j with
  | zero => omega
  | succ j ih =>
    have h1 := jMo_lt j (by omega)
    by_cases e : i = j
    · subst e; exact h1
    · have := ih (by omega) (by omega); omega
theorem jMo_inj {i j : Nat} (hi : i < 20) (hj : j < 20) (e : jMo i = jMo j) : i = j := by
  rcases Nat.lt_trichotomy i j with g | g | g
  · have := jMo_mono g hj; omega
  · exact g
  · have := jMo_mono g hi; omega
