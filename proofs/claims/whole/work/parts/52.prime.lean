/-! PRIMES -/
def isP (p : Nat) : Prop := 2 ≤ p ∧ ∀ d, d ∣ p → d = 1 ∨ d = p
theorem euclid {p a b : Nat} (hp : isP p) (h : p ∣ a * b) : p ∣ a ∨ p ∣ b := by
  rcases hp.2 (Nat.gcd p a) (Nat.gcd_dvd_left p a) with e | e
  · exact Or.inr (Nat.Coprime.dvd_of_dvd_mul_left e h)
  · exact Or.inl (by rw [← e]; exact Nat.gcd_dvd_right p a)
theorem ph : ∀ (n : Nat) (g : Nat → Nat), (∀ i, i < n + 1 → g i < n) → (∀ i j, i < n + 1 → j < n + 1 → g i = g j → i = j) → False
  | 0, g, h, _ => absurd (h 0 (by omega)) (by omega)
  | n + 1, g, h, hi => by
    refine ph n (fun i => if g i = n then g (n + 1) else g i) (fun i hi' => ?_) (fun i j hi' hj' e => ?_)
    · have h1 := h i (by omega)
      have h2 := h (n + 1) (by omega)
      show (if g i = n then g (n + 1) else g i) < n
      split
      · rename_i h3
        have : g (n + 1) ≠ n := fun h4 => by have := hi i (n + 1) (by omega) (by omega) (by omega); omega
        omega
      · omega
    · have e' : (if g i = n then g (n + 1) else g i) = (if g j = n then g (n + 1) else g j) := e
      have a1 := fun e => hi i (n + 1) (by omega) (by omega) e
      have a2 := fun e => hi j (n + 1) (by omega) (by omega) e
      refine hi i j (by omega) (by omega) ?_
      split at e' <;> split at e'
      · omega
      · have := a2 e'.symm; omega
      · have := a1 e'; omega
      · exact e'
def prn : Nat → (Nat → Nat) → Nat
  | 0, _ => 1
  | n + 1, f => prn n f * f n
theorem prn_ext {n : Nat} {f g : Nat → Nat} (h : ∀ i, i < n → f i = g i) : prn n f = prn n g := by
  induction n with
  | zero => rfl
  | succ n ih => show prn n f * f n = prn n g * g n; rw [ih (fun i hi => h i (by omega)), h n (by omega)]
theorem prn_swap : ∀ (n i0 : Nat) (f : Nat → Nat) (a : Nat), i0 < n → prn n f * a = prn n (fun i => if i = i0 then a else f i) * f i0
  | 0, _, _, _, h => absurd h (by omega)
  | n + 1, i0, f, a, h => by
    show prn n f * f n * a = prn n (fun i => if i = i0 then a else f i) * (if n = i0 then a else f n) * f i0
    by_cases e : n = i0
    · subst e
      rw [if_pos rfl, prn_ext (f := fun i => if i = n then a else f i) (g := f) (fun i hi => by rw [if_neg (by omega)])]
      rw [Nat.mul_assoc, Nat.mul_assoc, Nat.mul_comm a]
    · rw [if_neg e]
      have := prn_swap n i0 f a (by omega)
      calc prn n f * f n * a = (prn n f * a) * f n := by rw [Nat.mul_assoc, Nat.mul_comm (f n), ← Nat.mul_assoc]
        _ = _ := by rw [this, Nat.mul_assoc, Nat.mul_comm (f i0), ← Nat.mul_assoc]
theorem prn_perm (F : Nat → Nat) : ∀ (n : Nat) (g : Nat → Nat), (∀ i, i < n → g i < n) → (∀ i j, i < n → j < n → g i = g j → i = j) → prn n (fun i => F (g i)) = prn n F
  | 0, _, _, _ => rfl
  | n + 1, g, h, hi => by
    show prn n (fun i => F (g i)) * F (g n) = prn n F * F n
    by_cases e : g n = n
    · rw [e, prn_perm F n g (fun i hi' => by
        have := h i (by omega)
        have : g i ≠ n := fun h4 => by have := hi i n (by omega) (by omega) (by omega); omega
        omega) (fun i j a b c => hi i j (by omega) (by omega) c)]
    · have hn := h n (by omega)
      obtain ⟨i0, hi0, hg0⟩ : ∃ i0, i0 < n ∧ g i0 = n := by
        refine Classical.byContradiction (fun hc => ph n g (fun i hi' => ?_) hi)
        by_cases e1 : i = n
        · subst e1; omega
        · have := h i (by omega)
          have : g i ≠ n := fun h4 => hc ⟨i, by omega, h4⟩
          omega
      have hp := prn_perm F n (fun i => if i = i0 then g n else g i) (fun i hi' => by
        show (if i = i0 then g n else g i) < n
        split
        · omega
        · have := h i (by omega)
          have : g i ≠ n := fun h4 => by have := hi i i0 (by omega) (by omega) (by omega); omega
          omega) (fun i j a b c => by
        have c' : (if i = i0 then g n else g i) = (if j = i0 then g n else g j) := c
        split at c' <;> split at c'
        · omega
        · have := hi n j (by omega) (by omega) c'; omega
        · have := hi i n (by omega) (by omega) c'; omega
        · exact hi i j (by omega) (by omega) c')
      rw [← hp]
      have := prn_swap n i0 (fun i => F (g i)) (F (g n)) hi0
      rw [hg0] at this
      rw [this]
      congr 1
      refine prn_ext (fun i _ => ?_)
      split
      · rfl
      · rfl
theorem prn_mul (n : Nat) (f g : Nat → Nat) : prn n (fun i => f i * g i) = prn n f * prn n g := by
  induction n with
  | zero => rfl
  | succ n ih => simp only [prn, ih]; rw [Nat.mul_assoc, Nat.mul_assoc]; congr 1; rw [← Nat.mul_assoc, ← Nat.mul_assoc, Nat.mul_comm (f n)]
theorem prn_const (n a : Nat) : prn n (fun _ => a) = a ^ n := by
  induction n with
  | zero => rfl
  | succ n ih => simp only [prn, ih]; rw [Nat.pow_succ]
theorem prn_mod (n p : Nat) (f : Nat → Nat) : prn n (fun i => f i % p) % p = prn n f % p := by
  induction n with
  | zero => rfl
  | succ n ih => show prn n _ * (f n % p) % p = prn n f * f n % p; rw [Nat.mul_mod, ih, Nat.mod_mod, ← Nat.mul_mod]
theorem prn_nd {p : Nat} (hp : isP p) : ∀ n, n < p → ¬ p ∣ prn n (fun i => i + 1)
  | 0, _, h => by have h1 := Nat.le_of_dvd Nat.one_pos h; have := hp.1; omega
  | n + 1, hn, h => by
    rcases euclid hp h with e | e
    · exact prn_nd hp n (by omega) e
    · have e' : p ∣ n + 1 := e
      have := Nat.le_of_dvd (by omega) e'; omega
theorem fermat {p a : Nat} (hp : isP p) (ha : ¬ p ∣ a) : a ^ (p - 1) % p = 1 := by
  have h2 := hp.1
  have hpos : ∀ i, i < p - 1 → 0 < a * (i + 1) % p := by
    intro i hi
    refine Nat.pos_of_ne_zero (fun h0 => ?_)
    rcases euclid hp (Nat.dvd_of_mod_eq_zero h0) with e | e
    · exact ha e
    · have := Nat.le_of_dvd (by omega) e; omega
  have hlt : ∀ i, a * (i + 1) % p < p := fun i => Nat.mod_lt _ (by omega)
  have hperm := prn_perm (fun i => i + 1) (p - 1) (fun i => a * (i + 1) % p - 1) (fun i hi => by
      have := hpos i hi; have := hlt i; omega) (fun i j hi hj e => by
      have h3 := hpos i hi; have h4 := hpos j hj
      have e' : a * (i + 1) % p = a * (j + 1) % p := by
        have e2 : a * (i + 1) % p - 1 = a * (j + 1) % p - 1 := e
        omega
      have key : ∀ x y : Nat, x ≤ y → y < p → a * x % p = a * y % p → x = y := by
        intro x y hxy hy hm
        have h5 := Nat.dvd_of_mod_eq_zero (Nat.sub_mod_eq_zero_of_mod_eq hm.symm)
        rw [← Nat.mul_sub] at h5
        rcases euclid hp h5 with z | z
        · exact absurd z ha
        · rcases Nat.eq_zero_or_pos (y - x) with q | q
          · omega
          · have := Nat.le_of_dvd q z; omega
      rcases Nat.le_total (i + 1) (j + 1) with g | g
      · have := key _ _ g (by omega) e'; omega
      · have := key _ _ g (by omega) e'.symm; omega)
  have e1 : prn (p - 1) (fun i => a * (i + 1) % p - 1 + 1) = prn (p - 1) (fun i => a * (i + 1) % p) := prn_ext (fun i hi => by have := hpos i hi; omega)
  rw [e1] at hperm
  have e2 := prn_mod (p - 1) p (fun i => a * (i + 1))
  rw [hperm, prn_mul, prn_const] at e2
  have h6 : p ∣ (a ^ (p - 1) - 1) * prn (p - 1) (fun i => i + 1) := by
    have hpw : 0 < a ^ (p - 1) := Nat.pow_pos (Nat.pos_of_ne_zero (fun h0 => ha (by rw [h0]; exact Nat.dvd_zero p)))
    have := Nat.dvd_of_mod_eq_zero (Nat.sub_mod_eq_zero_of_mod_eq e2.symm)
    rwa [show a ^ (p - 1) * prn (p - 1) (fun i => i + 1) - prn (p - 1) (fun i => i + 1) = (a ^ (p - 1) - 1) * prn (p - 1) (fun i => i + 1) by rw [Nat.sub_mul, Nat.one_mul]] at this
  have hpw : 0 < a ^ (p - 1) := Nat.pow_pos (Nat.pos_of_ne_zero (fun h0 => ha (by rw [h0]; exact Nat.dvd_zero p)))
  rcases euclid hp h6 with e | e
  · obtain ⟨c, hc⟩ := e
    rw [show a ^ (p - 1) = 1 + p * c by omega, Nat.add_mul_mod_self_left, Nat.mod_eq_of_lt (by omega)]
  · exact absurd e (prn_nd hp (p - 1) (by omega))
theorem fermat_inv {p a : Nat} (hp : isP p) (ha : ¬ p ∣ a) : a * (a ^ (p - 2) % p) % p = 1 := by
  have h2 := hp.1
  rw [Nat.mul_mod_mod, Nat.mul_comm, ← Nat.pow_succ, show (p - 2).succ = p - 1 by omega]
  exact fermat hp ha
/-- trial division: no odd number 3 .. 2 k + 1 divides -/
def tdiv (p : Nat) : Nat → Bool
  | 0 => true
  | k + 1 => (p % (2 * k + 3) != 0) && tdiv p k
theorem tdiv_ok {p : Nat} : ∀ k, tdiv p k = true → ∀ j, j < k → ¬ (2 * j + 3) ∣ p
  | 0, _, j, h, _ => absurd h (by omega)
  | k + 1, ht, j, h, hd => by
    simp only [tdiv, Bool.and_eq_true, bne_iff_ne, ne_eq] at ht
    by_cases e : j = k
    · subst e; exact ht.1 (Nat.mod_eq_zero_of_dvd hd)
    · exact tdiv_ok k ht.2 j (by omega) hd
theorem prime_of {p : Nat} (h2 : 3 ≤ p) (hodd : p % 2 = 1) (h : ∀ d, 3 ≤ d → d * d ≤ p → d % 2 = 1 → ¬ d ∣ p) : isP p := by
  refine ⟨by omega, fun d hd => ?_⟩
  obtain ⟨e, he⟩ := hd
  have small : ∀ x y : Nat, p = x * y → x ≤ y → x = 1 := by
    intro x y hxy hle
    have hx2 : x % 2 = 1 := by
      rcases Nat.mod_two_eq_zero_or_one x with z | z
      · rw [hxy, Nat.mul_mod, z, Nat.zero_mul] at hodd; simp at hodd
      · exact z
    by_cases h1 : x = 1
    · exact h1
    · exact absurd ⟨y, hxy⟩ (h x (by omega) (by rw [hxy]; exact Nat.mul_le_mul_left x hle) hx2)
  rcases Nat.le_total d e with g | g
  · exact Or.inl (small d e he g)
  · have := small e d (by rw [he, Nat.mul_comm]) g
    subst this; exact Or.inr (by omega)
theorem prime_tdiv {p k : Nat} (h2 : 3 ≤ p) (hodd : p % 2 = 1) (hk : p < (2 * k + 3) * (2 * k + 3)) (ht : tdiv p k = true) : isP p := by
  refine prime_of h2 hodd (fun d h3 hd hd2 hdv => ?_)
  obtain ⟨j, rfl⟩ : ∃ j, d = 2 * j + 3 := ⟨(d - 3) / 2, by omega⟩
  refine tdiv_ok k ht j (Nat.lt_of_not_le (fun hkj => ?_)) hdv
  have : (2 * k + 3) * (2 * k + 3) ≤ (2 * j + 3) * (2 * j + 3) := Nat.mul_le_mul (by omega) (by omega)
  omega
/-! DIGITS OF MANY PRIMES -/
def mrx (d m : Nat → Nat) : Nat → Nat
  | 0 => 0
  | n + 1 => mrx d m n + d n * prn n m
theorem prn_pos {n : Nat} {m : Nat → Nat} (h : ∀ i, i < n → 0 < m i) : 0 < prn n m := by
  induction n with
  | zero => exact Nat.one_pos
  | succ n ih => exact Nat.mul_pos (ih (fun i hi => h i (by omega))) (h n (by omega))
theorem mrx_lt {d m : Nat → Nat} : ∀ n, (∀ i, i < n → d i < m i) → mrx d m n < prn n m
  | 0, _ => Nat.one_pos
  | n + 1, h => by
    have ih := mrx_lt n (fun i hi => h i (by omega))
    have := h n (by omega)
    show mrx d m n + d n * prn n m < prn n m * m n
    have : (d n + 1) * prn n m ≤ m n * prn n m := Nat.mul_le_mul_right _ this
    rw [Nat.add_mul, Nat.one_mul, Nat.mul_comm (m n)] at this
    omega
theorem mrx_ext {d d' m m' : Nat → Nat} {n : Nat} (h : ∀ i, i < n → d i = d' i ∧ m i = m' i) : mrx d m n = mrx d' m' n := by
  induction n with
  | zero => rfl
  | succ n ih =>
    show mrx d m n + d n * prn n m = mrx d' m' n + d' n * prn n m'
    rw [ih (fun i hi => h i (by omega)), (h n (by omega)).1, prn_ext (fun i hi => (h i (by omega)).2)]
/-- from the top -/
def hrn (d m : Nat → Nat) (n : Nat) : Nat → Nat
  | 0 => 0
  | k + 1 => d (n - (k + 1)) + m (n - (k + 1)) * hrn d m n k
theorem hrn_mrx {d m : Nat → Nat} {n : Nat} : ∀ k, k ≤ n → mrx d m n = mrx d m (n - k) + prn (n - k) m * hrn d m n k
  | 0, _ => by simp [hrn]
  | k + 1, h => by
    rw [hrn_mrx k (by omega)]
    obtain ⟨j, hj⟩ : ∃ j, n - k = j + 1 := ⟨n - k - 1, by omega⟩
    have hj' : n - (k + 1) = j := by omega
    rw [hj, hj']
    show mrx d m j + d j * prn j m + prn j m * m j * hrn d m n k = mrx d m j + prn j m * (d (n - (k + 1)) + m (n - (k + 1)) * hrn d m n k)
    rw [hj', Nat.mul_add, Nat.mul_comm (d j), Nat.mul_assoc, Nat.add_assoc]
theorem hrn_all {d m : Nat → Nat} {n : Nat} : hrn d m n n = mrx d m n := by
  have := hrn_mrx (d := d) (m := m) (n := n) n (Nat.le_refl n)
  simp [mrx, prn] at this; omega
theorem prn_split {m : Nat → Nat} {n i : Nat} (h : i < n) : ∃ z, prn n m = prn (i + 1) m * z := by
  induction n with
  | zero => omega
  | succ n ih =>
    by_cases e : i = n
    · subst e; exact ⟨1, by simp⟩
    · obtain ⟨z, hz⟩ := ih (by omega)
      exact ⟨z * m n, by show prn n m * m n = _; rw [hz, Nat.mul_assoc]⟩
theorem mrx_low {d m : Nat → Nat} {n i : Nat} (h : i < n) : ∃ z, mrx d m n = mrx d m (i + 1) + prn (i + 1) m * z := by
  induction n with
  | zero => omega
  | succ n ih =>
    by_cases e : i = n
    · subst e; exact ⟨0, by simp⟩
    · obtain ⟨z, hz⟩ := ih (by omega)
      obtain ⟨y, hy⟩ := prn_split (m := m) (show i < n by omega)
      exact ⟨z + d n * y, by show mrx d m n + d n * prn n m = _; rw [hz, hy, Nat.mul_add, Nat.add_assoc, ← Nat.mul_assoc (d n), Nat.mul_comm (d n), Nat.mul_assoc]⟩
/-- what a digit must be -/
theorem mrx_cg {d m : Nat → Nat} {r : Nat → Int} {n : Nat} (h : ∀ i, i < n → cg (m i) ((mrx d m i : Int) + d i * prn i m) (r i)) {i : Nat} (hi : i < n) : cg (m i) (mrx d m n : Int) (r i) := by
  obtain ⟨z, hz⟩ := mrx_low (d := d) (m := m) hi
  refine cg_trans ?_ (h i hi)
  refine ⟨prn i m * z, ?_⟩
  rw [hz]
  show ((mrx d m i + d i * prn i m + prn i m * m i * z : Nat) : Int) - _ = _
  push_cast; grind
theorem cop_prn {p : Nat} (hp : isP p) {m : Nat → Nat} : ∀ n, (∀ i, i < n → isP (m i) ∧ m i ≠ p) → ¬ p ∣ prn n m
  | 0, _, h => by have h1 := Nat.le_of_dvd Nat.one_pos h; have := hp.1; omega
  | n + 1, hm, h => by
    rcases euclid hp h with e | e
    · exact cop_prn hp n (fun i hi => hm i (by omega)) e
    · rcases (hm n (by omega)).1.2 p e with q | q
      · have := hp.1; omega
      · exact (hm n (by omega)).2 q.symm
theorem prn_dvd {m : Nat → Nat} {z : Nat} : ∀ n, (∀ i, i < n → isP (m i)) → (∀ i j, i < n → j < n → m i = m j → i = j) → (∀ i, i < n → m i ∣ z) → prn n m ∣ z
  | 0, _, _, _ => ⟨z, by simp [prn]⟩
  | n + 1, hp, hd, h => by
    have ih := prn_dvd n (fun i hi => hp i (by omega)) (fun i j a b => hd i j (by omega) (by omega)) (fun i hi => h i (by omega))
    have hn := hp n (by omega)
    have hc : Nat.Coprime (prn n m) (m n) := by
      rcases hn.2 _ (Nat.gcd_dvd_right (prn n m) (m n)) with e | e
      · exact e
      · exact absurd (e ▸ Nat.gcd_dvd_left (prn n m) (m n)) (cop_prn hn n (fun i hi => ⟨hp i (by omega), fun e => by have := hd i n (by omega) (by omega) e; omega⟩))
    exact Nat.Coprime.mul_dvd_of_dvd_of_dvd hc ih (h n (by omega))
theorem prn_cg {m : Nat → Nat} {n : Nat} {a b : Int} (hp : ∀ i, i < n → isP (m i)) (hd : ∀ i j, i < n → j < n → m i = m j → i = j) (h : ∀ i, i < n → cg (m i) a b) : cg (prn n m) a b := by
  have := prn_dvd (z := (a - b).natAbs) n hp hd (fun i hi => by
    have := h i hi
    exact Int.ofNat_dvd_left.mp this)
  exact Int.ofNat_dvd_left.mpr this
/-- the number below the product is told by its remainders -/
theorem cg_small {M a b : Int} (h : cg M a b) (h1 : -M < a - b) (h2 : a - b < M) : a = b := by
  obtain ⟨c, hc⟩ := h
  have hM : 0 < M := by omega
  have : c = 0 := by
    rcases Int.lt_trichotomy c 0 with g | g | g
    · have : M * c ≤ M * (-1) := Int.mul_le_mul_of_nonneg_left (by omega) (by omega)
      omega
    · exact g
    · have : M * 1 ≤ M * c := Int.mul_le_mul_of_nonneg_left (by omega) (by omega)
      omega
  rw [this] at hc; omega
/-- all primes of a list divide: their product is not above -/
theorem prn_le_of_dvd {m : Nat → Nat} {n z : Nat} (hp : ∀ i, i < n → isP (m i)) (hd : ∀ i j, i < n → j < n → m i = m j → i = j) (hz : 0 < z) (h : ∀ i, i < n → m i ∣ z) : prn n m ≤ z := Nat.le_of_dvd hz (prn_dvd n hp hd h)
theorem prn_ge {m : Nat → Nat} {n b : Nat} (h : ∀ i, i < n → b ≤ m i) : b ^ n ≤ prn n m := by
  induction n with
  | zero => exact Nat.le_refl 1
  | succ n ih => rw [Nat.pow_succ]; exact Nat.mul_le_mul (ih (fun i hi => h i (by omega))) (h n (by omega))
