/-! SUMS AND DETERMINANTS -/
def sm : Nat → (Nat → Int) → Int
  | 0, _ => 0
  | n + 1, f => sm n f + f n
theorem sm_ext {n : Nat} {f g : Nat → Int} (h : ∀ i, i < n → f i = g i) : sm n f = sm n g := by
  induction n with
  | zero => rfl
  | succ n ih => show sm n f + f n = sm n g + g n; rw [ih (fun i hi => h i (by omega)), h n (by omega)]
theorem sm_add (n : Nat) (f g : Nat → Int) : sm n (fun i => f i + g i) = sm n f + sm n g := by
  induction n with
  | zero => rfl
  | succ n ih => simp only [sm, ih]; omega
theorem sm_mul (n : Nat) (c : Int) (f : Nat → Int) : sm n (fun i => c * f i) = c * sm n f := by
  induction n with
  | zero => simp [sm]
  | succ n ih => simp only [sm, ih, Int.mul_add]
theorem sm_mulr (n : Nat) (c : Int) (f : Nat → Int) : sm n (fun i => f i * c) = sm n f * c := by
  induction n with
  | zero => simp [sm]
  | succ n ih => simp only [sm, ih, Int.add_mul]
theorem sm_neg (n : Nat) (f : Nat → Int) : sm n (fun i => - f i) = - sm n f := by
  induction n with
  | zero => simp [sm]
  | succ n ih => simp only [sm, ih]; omega
theorem sm_sub (n : Nat) (f g : Nat → Int) : sm n (fun i => f i - g i) = sm n f - sm n g := by
  induction n with
  | zero => rfl
  | succ n ih => simp only [sm, ih]; omega
theorem sm_zero (n : Nat) : sm n (fun _ => 0) = 0 := by
  induction n with
  | zero => rfl
  | succ n ih => simp only [sm, ih]; omega
theorem sm_z {n : Nat} {f : Nat → Int} (h : ∀ i, i < n → f i = 0) : sm n f = 0 := (sm_ext h).trans (sm_zero n)
theorem sm_one {n k : Nat} {f : Nat → Int} (hk : k < n) (h : ∀ i, i < n → i ≠ k → f i = 0) : sm n f = f k := by
  induction n with
  | zero => omega
  | succ n ih =>
    show sm n f + f n = f k
    by_cases e : k = n
    · subst e; rw [sm_z (fun i hi => h i (by omega) (by omega))]; omega
    · rw [ih (by omega) (fun i hi hn => h i (by omega) hn), h n (by omega) (by omega)]; omega
theorem sm_two {n k l : Nat} {f : Nat → Int} (hk : k < n) (hl : l < n) (hkl : k ≠ l) (h : ∀ i, i < n → i ≠ k → i ≠ l → f i = 0) : sm n f = f k + f l := by
  have e : sm n f = sm n (fun i => if i = k then f i else 0) + sm n (fun i => if i = k then 0 else f i) := by
    rw [← sm_add]; exact sm_ext (fun i _ => by by_cases e : i = k <;> simp [e])
  rw [e, sm_one hk (fun i _ hn => by simp [hn]), sm_one hl (fun i hi hn => by
    by_cases e : i = k
    · simp [e]
    · simp [e]; exact h i hi e hn)]
  simp [show ¬ l = k by omega]
theorem sm_comm (n m : Nat) (f : Nat → Nat → Int) : sm n (fun i => sm m (fun j => f i j)) = sm m (fun j => sm n (fun i => f i j)) := by
  induction n with
  | zero => simp only [sm]; exact (sm_zero m).symm
  | succ n ih => simp only [sm]; rw [ih, sm_add]
theorem sm_first (n : Nat) (f : Nat → Int) : sm (n + 1) f = f 0 + sm n (fun i => f (i + 1)) := by
  induction n with
  | zero => simp [sm]
  | succ n ih => show sm (n + 1) f + f (n + 1) = f 0 + (sm n (fun i => f (i + 1)) + f (n + 1)); rw [ih]; omega
theorem sm_nn {n : Nat} {f : Nat → Int} (h : ∀ i, i < n → 0 ≤ f i) : 0 ≤ sm n f := by
  induction n with
  | zero => exact Int.le_refl 0
  | succ n ih => show 0 ≤ sm n f + f n; have := ih (fun i hi => h i (by omega)); have := h n (by omega); omega
theorem sm_le {n : Nat} {f g : Nat → Int} (h : ∀ i, i < n → f i ≤ g i) : sm n f ≤ sm n g := by
  induction n with
  | zero => exact Int.le_refl 0
  | succ n ih => show sm n f + f n ≤ sm n g + g n; have := ih (fun i hi => h i (by omega)); have := h n (by omega); omega

abbrev Mx : Type := Nat → Nat → Int
def sk (i r : Nat) : Nat := if r < i then r else r + 1
def mn (i : Nat) (M : Mx) : Mx := fun r c => M (sk i r) (c + 1)
def sg (i : Nat) : Int := if i % 2 = 0 then 1 else -1
def dt : Nat → Mx → Int
  | 0, _ => 1
  | n + 1, M => sm (n + 1) (fun i => sg i * M i 0 * dt n (mn i M))
/-- a row put in -/
def rw1 (M : Mx) (k : Nat) (r : Nat → Int) : Mx := fun i j => if i = k then r j else M i j
theorem sg_s (i : Nat) : sg (i + 1) = - sg i := by unfold sg; by_cases h : i % 2 = 0 <;> simp [h] <;> omega
theorem dt_ext : ∀ (n : Nat) {M N : Mx}, (∀ i j, i < n → j < n → M i j = N i j) → dt n M = dt n N
  | 0, _, _, _ => rfl
  | n + 1, M, N, h => by
    show sm _ _ = sm _ _
    refine sm_ext (fun i hi => ?_)
    rw [h i 0 hi (by omega), dt_ext n (M := mn i M) (N := mn i N) (fun r c hr hc => h (sk i r) (c + 1) (by unfold sk; split <;> omega) (by omega))]
theorem mn_rw_same (M : Mx) (i : Nat) (r : Nat → Int) : mn i (rw1 M i r) = mn i M := by
  funext a c; unfold mn rw1 sk
  by_cases h : a < i
  · rw [if_pos h, if_neg (by omega)]
  · rw [if_neg h, if_neg (by omega)]
theorem mn_rw_lt (M : Mx) {i k : Nat} (h : k < i) (r : Nat → Int) : mn i (rw1 M k r) = rw1 (mn i M) k (fun c => r (c + 1)) := by
  funext a c; simp only [mn, rw1, sk]
  by_cases h1 : a < i
  · simp only [if_pos h1]
  · simp only [if_neg h1]; rw [if_neg (by omega), if_neg (by omega)]
theorem mn_rw_gt (M : Mx) {i k : Nat} (h : i < k + 1) (r : Nat → Int) : mn i (rw1 M (k + 1) r) = rw1 (mn i M) k (fun c => r (c + 1)) := by
  funext a c; simp only [mn, rw1, sk]
  by_cases h1 : a < i
  · simp only [if_pos h1]; rw [if_neg (by omega), if_neg (by omega)]
  · simp only [if_neg h1]
    by_cases e : a = k
    · subst e; simp
    · rw [if_neg (by omega), if_neg e]
theorem dt_lin : ∀ (n : Nat) (M : Mx) (k : Nat), k < n → ∀ (a b : Int) (r t : Nat → Int), dt n (rw1 M k (fun j => a * r j + b * t j)) = a * dt n (rw1 M k r) + b * dt n (rw1 M k t)
  | 0, _, _, h, _, _, _, _ => absurd h (by omega)
  | n + 1, M, k, hk, a, b, r, t => by
    show sm _ _ = a * sm _ _ + b * sm _ _
    rw [← sm_mul, ← sm_mul, ← sm_add]
    refine sm_ext (fun i hi => ?_)
    by_cases e : i = k
    · subst e; rw [mn_rw_same, mn_rw_same, mn_rw_same]; simp only [rw1, if_true]; grind
    · have h0 : ∀ z : Nat → Int, rw1 M k z i 0 = M i 0 := fun z => by unfold rw1; rw [if_neg e]
      rw [h0, h0, h0]
      by_cases h : k < i
      · rw [mn_rw_lt M h, mn_rw_lt M h, mn_rw_lt M h, dt_lin n (mn i M) k (by omega)]; grind
      · obtain ⟨k', rfl⟩ : ∃ k', k = k' + 1 := ⟨k - 1, by omega⟩
        rw [mn_rw_gt M (by omega), mn_rw_gt M (by omega), mn_rw_gt M (by omega), dt_lin n (mn i M) k' (by omega)]; grind
theorem dt_adj : ∀ (n : Nat) (M : Mx) (k : Nat), k + 1 < n → (∀ j, M k j = M (k + 1) j) → dt n M = 0
  | 0, _, _, h, _ => absurd h (by omega)
  | n + 1, M, k, hk, h => by
    show sm _ _ = 0
    rw [sm_two (k := k) (l := k + 1) (by omega) (by omega) (by omega)]
    · have : mn k M = mn (k + 1) M := by
        funext a c; unfold mn sk
        by_cases h1 : a < k
        · rw [if_pos h1, if_pos (by omega)]
        · by_cases h2 : a = k
          · subst h2; rw [if_neg (by omega), if_pos (by omega)]; exact (h _).symm
          · rw [if_neg h1, if_neg (by omega)]
      rw [this, h 0, sg_s]; grind
    · intro i hi h1 h2
      have : dt n (mn i M) = 0 := by
        by_cases h3 : i < k
        · obtain ⟨k', rfl⟩ : ∃ k', k = k' + 1 := ⟨k - 1, by omega⟩
          refine dt_adj n _ k' (by omega) (fun j => ?_)
          unfold mn sk; rw [if_neg (by omega), if_neg (by omega)]; exact h _
        · refine dt_adj n _ k (by omega) (fun j => ?_)
          unfold mn sk; rw [if_pos (by omega), if_pos (by omega)]; exact h _
      rw [this]; simp
theorem rw1_self (M : Mx) (k : Nat) : rw1 M k (M k) = M := by
  funext i j; unfold rw1; by_cases e : i = k <;> simp [e]
theorem rw1_at (M : Mx) (k : Nat) (r : Nat → Int) : rw1 M k r k = r := by funext j; simp [rw1]
theorem rw1_ne (M : Mx) {k i : Nat} (h : i ≠ k) (r : Nat → Int) : rw1 M k r i = M i := by funext j; simp [rw1, h]
theorem rw1_comm (M : Mx) {k l : Nat} (h : k ≠ l) (r t : Nat → Int) : rw1 (rw1 M k r) l t = rw1 (rw1 M l t) k r := by
  funext i j; unfold rw1
  by_cases e : i = l
  · by_cases e' : i = k
    · omega
    · simp [e, show ¬ l = k by omega]
  · by_cases e' : i = k
    · rw [if_neg e, if_pos e', if_pos e']
    · rw [if_neg e, if_neg e', if_neg e', if_neg e]
theorem rw1_rw1 (M : Mx) (k : Nat) (r t : Nat → Int) : rw1 (rw1 M k r) k t = rw1 M k t := by
  funext i j; unfold rw1; by_cases e : i = k <;> simp [e]
theorem dt_add (n : Nat) (M : Mx) (k : Nat) (hk : k < n) (r t : Nat → Int) : dt n (rw1 M k (fun j => r j + t j)) = dt n (rw1 M k r) + dt n (rw1 M k t) := by
  have := dt_lin n M k hk 1 1 r t
  simpa using this
/-- swap from vanishing -/
theorem dt_swap_of {n k l : Nat} (hk : k < n) (hl : l < n) (hkl : k ≠ l) (hz : ∀ M : Mx, (∀ j, M k j = M l j) → dt n M = 0) (M : Mx) (r t : Nat → Int) : dt n (rw1 (rw1 M k r) l t) = - dt n (rw1 (rw1 M k t) l r) := by
  have h0 := hz (rw1 (rw1 M k (fun j => r j + t j)) l (fun j => r j + t j)) (fun j => by rw [rw1_at, rw1_ne _ hkl, rw1_at])
  have e1 := dt_add n (rw1 M k (fun j => r j + t j)) l hl r t
  rw [h0, rw1_comm M hkl, rw1_comm M hkl, dt_add n _ k hk, dt_add n _ k hk] at e1
  have z1 := hz (rw1 (rw1 M l r) k r) (fun j => by rw [rw1_at, rw1_ne _ (Ne.symm hkl), rw1_at])
  have z2 := hz (rw1 (rw1 M l t) k t) (fun j => by rw [rw1_at, rw1_ne _ (Ne.symm hkl), rw1_at])
  rw [z1, z2] at e1
  rw [rw1_comm M hkl, rw1_comm M hkl]; omega
theorem dt_eq : ∀ (d n k : Nat) (M : Mx), k + 1 + d < n → (∀ j, M k j = M (k + 1 + d) j) → dt n M = 0
  | 0, n, k, M, h, he => dt_adj n M k (by omega) he
  | d + 1, n, k, M, h, he => by
    have hs := dt_swap_of (n := n) (k := k + 1 + d) (l := k + 1 + d + 1) (by omega) (by omega) (by omega) (fun M h => dt_adj n M _ (by omega) h) M (M (k + 1 + d)) (M (k + 1 + d + 1))
    rw [rw1_self, rw1_self] at hs
    rw [hs, dt_eq d n k _ (by omega)]
    · rfl
    · intro j
      rw [rw1_ne _ (by omega), rw1_ne _ (by omega), rw1_ne _ (by omega), rw1_at]; exact he j
theorem dt_same {n k l : Nat} (hk : k < n) (hl : l < n) (hkl : k ≠ l) (M : Mx) (he : ∀ j, M k j = M l j) : dt n M = 0 := by
  rcases Nat.lt_or_gt_of_ne hkl with h | h
  · obtain ⟨d, rfl⟩ : ∃ d, l = k + 1 + d := ⟨l - k - 1, by omega⟩
    exact dt_eq d n k M hl he
  · obtain ⟨d, rfl⟩ : ∃ d, k = l + 1 + d := ⟨k - l - 1, by omega⟩
    exact dt_eq d n l M hk (fun j => (he j).symm)
theorem dt_swap {n k l : Nat} (hk : k < n) (hl : l < n) (hkl : k ≠ l) (M : Mx) : dt n (rw1 (rw1 M k (M l)) l (M k)) = - dt n M := by
  have := dt_swap_of hk hl hkl (fun M h => dt_same hk hl hkl M h) M (M l) (M k)
  rw [this, rw1_self, rw1_self]
theorem dt_scale {n k : Nat} (hk : k < n) (M : Mx) (c : Int) : dt n (rw1 M k (fun j => c * M k j)) = c * dt n M := by
  have := dt_lin n M k hk c 0 (M k) (M k)
  rw [rw1_self] at this
  simpa using this
theorem dt_addmul {n k l : Nat} (hk : k < n) (hl : l < n) (hkl : k ≠ l) (M : Mx) (c : Int) : dt n (rw1 M k (fun j => M k j + c * M l j)) = dt n M := by
  have := dt_lin n M k hk 1 c (M k) (M l)
  rw [rw1_self, dt_same hk hl hkl (rw1 M k (M l)) (fun j => by rw [rw1_at, rw1_ne _ (Ne.symm hkl)])] at this
  simpa using this
/-- the row is a sum of rows: Cramer -/
theorem dt_sum {n k : Nat} (hk : k < n) (M : Mx) : ∀ (m : Nat) (y : Nat → Int) (f : Nat → Nat → Int), dt n (rw1 M k (fun j => sm m (fun i => y i * f i j))) = sm m (fun i => y i * dt n (rw1 M k (f i)))
  | 0, y, f => by
    have := dt_lin n M k hk 0 0 (M k) (M k)
    simpa [sm] using this
  | m + 1, y, f => by
    have := dt_lin n M k hk 1 (y m) (fun j => sm m (fun i => y i * f i j)) (f m)
    simp only [Int.one_mul] at this
    simp only [sm]
    rw [this, dt_sum hk M m y f]
theorem dt_cramer {n k : Nat} (hk : k < n) (M : Mx) (y : Nat → Int) : dt n (rw1 M k (fun j => sm n (fun i => y i * M i j))) = y k * dt n M := by
  rw [dt_sum hk M n y (fun i => M i), sm_one hk (fun i hi hn => by
    rw [dt_same hk hi (Ne.symm hn) (rw1 M k (M i)) (fun j => by rw [rw1_at, rw1_ne _ hn])]; simp), rw1_self]
/-! POSITIVE MATRICES -/
def pr : Nat → (Nat → Int) → Int
  | 0, _ => 1
  | n + 1, f => pr n f * f n
theorem pr_first (n : Nat) (f : Nat → Int) : pr (n + 1) f = f 0 * pr n (fun i => f (i + 1)) := by
  induction n with
  | zero => simp [pr]
  | succ n ih => show pr (n + 1) f * f (n + 1) = f 0 * (pr n (fun i => f (i + 1)) * f (n + 1)); rw [ih, Int.mul_assoc]
theorem pr_nn {n : Nat} {f : Nat → Int} (h : ∀ i, i < n → 0 ≤ f i) : 0 ≤ pr n f := by
  induction n with
  | zero => exact Int.zero_le_ofNat 1
  | succ n ih => exact Int.mul_nonneg (ih (fun i hi => h i (by omega))) (h n (by omega))
theorem pr_le {n : Nat} {f g : Nat → Int} (h : ∀ i, i < n → 0 ≤ f i ∧ f i ≤ g i) : pr n f ≤ pr n g := by
  induction n with
  | zero => exact Int.le_refl _
  | succ n ih =>
    have h1 := ih (fun i hi => h i (by omega))
    have h2 := h n (by omega)
    have h3 : 0 ≤ pr n f := pr_nn (fun i hi => (h i (by omega)).1)
    exact Int.mul_le_mul h1 h2.2 h2.1 (Int.le_trans h3 h1)
theorem pr_scale (n : Nat) (c : Int) (f : Nat → Int) : pr n (fun i => c * f i) = c ^ n * pr n f := by
  induction n with
  | zero => simp [pr]
  | succ n ih => simp only [pr, ih]; rw [Int.pow_succ]; grind
theorem pr_ext {n : Nat} {f g : Nat → Int} (h : ∀ i, i < n → f i = g i) : pr n f = pr n g := by
  induction n with
  | zero => rfl
  | succ n ih => show pr n f * f n = pr n g * g n; rw [ih (fun i hi => h i (by omega)), h n (by omega)]
def mv (n : Nat) (A : Mx) (x : Nat → Int) (i : Nat) : Int := sm n (fun j => A i j * x j)
def qf (n : Nat) (A : Mx) (x : Nat → Int) : Int := sm n (fun i => x i * mv n A x i)
def isSym (n : Nat) (A : Mx) : Prop := ∀ i j, i < n → j < n → A i j = A j i
def isPD (n : Nat) (A : Mx) : Prop := ∀ x : Nat → Int, (∃ i, i < n ∧ x i ≠ 0) → 0 < qf n A x
/-- all rows but the first times c -/
def sc (n : Nat) (c : Int) (M : Mx) : Mx := fun i j => if i = 0 then M i j else if i < n then c * M i j else M i j
theorem dt_sc (n : Nat) (c : Int) : ∀ m, m ≤ n → ∀ M : Mx, dt (n + 1) (sc (m + 1) c M) = c ^ m * dt (n + 1) M
  | 0, _, M => by
    rw [show sc 1 c M = M by funext i j; unfold sc; by_cases e : i = 0 <;> simp [e]]; simp
  | m + 1, h, M => by
    have e : sc (m + 1 + 1) c M = rw1 (sc (m + 1) c M) (m + 1) (fun j => c * sc (m + 1) c M (m + 1) j) := by
      funext i j
      by_cases e : i = m + 1
      · subst e; rw [rw1_at]; unfold sc; simp
      · rw [rw1_ne _ e]; unfold sc
        by_cases e0 : i = 0
        · simp [e0]
        · rw [if_neg e0, if_neg e0]
          by_cases e1 : i < m + 1
          · rw [if_pos e1, if_pos (by omega)]
          · rw [if_neg e1, if_neg (by omega)]
    rw [e, dt_scale (by omega), dt_sc n c m (by omega) M, Int.pow_succ]; grind
/-- multiples of the first row to rows 1 .. m -/
def ad (m : Nat) (y : Nat → Int) (M : Mx) : Mx := fun i j => if i = 0 then M i j else if i < m then M i j + y i * M 0 j else M i j
theorem dt_ad (n : Nat) (y : Nat → Int) : ∀ m, m ≤ n → ∀ M : Mx, dt (n + 1) (ad (m + 1) y M) = dt (n + 1) M
  | 0, _, M => by
    rw [show ad 1 y M = M by funext i j; unfold ad; by_cases e : i = 0 <;> simp [e]]
  | m + 1, h, M => by
    have e : ad (m + 1 + 1) y M = rw1 (ad (m + 1) y M) (m + 1) (fun j => ad (m + 1) y M (m + 1) j + y (m + 1) * ad (m + 1) y M 0 j) := by
      funext i j
      by_cases e : i = m + 1
      · subst e; rw [rw1_at]; unfold ad; simp
      · rw [rw1_ne _ e]; unfold ad
        by_cases e0 : i = 0
        · simp [e0]
        · rw [if_neg e0, if_neg e0]
          by_cases e1 : i < m + 1
          · rw [if_pos e1, if_pos (by omega)]
          · rw [if_neg e1, if_neg (by omega)]
    rw [e, dt_addmul (by omega) (by omega) (by omega), dt_ad n y m (by omega) M]
theorem dt_col0 (n : Nat) (M : Mx) (h : ∀ i, 0 < i → i < n + 1 → M i 0 = 0) : dt (n + 1) M = M 0 0 * dt n (fun i j => M (i + 1) (j + 1)) := by
  show sm _ _ = _
  rw [sm_one (k := 0) (by omega) (fun i hi hn => by rw [h i (by omega) hi]; simp)]
  rw [show mn 0 M = (fun i j => M (i + 1) (j + 1)) from rfl]
  simp [sg]
/-- Schur -/
def su (A : Mx) : Mx := fun i j => A 0 0 * A (i + 1) (j + 1) - A (i + 1) 0 * A 0 (j + 1)
theorem dt_su (n : Nat) (A : Mx) : A 0 0 ^ n * dt (n + 1) A = A 0 0 * dt n (su A) := by
  rw [← dt_sc n (A 0 0) n (Nat.le_refl n) A, ← dt_ad n (fun i => - A i 0) n (Nat.le_refl n), dt_col0]
  · have e0 : ad (n + 1) (fun i => - A i 0) (sc (n + 1) (A 0 0) A) 0 0 = A 0 0 := rfl
    rw [e0]
    congr 1
    refine dt_ext n (fun i j hi hj => ?_)
    unfold ad sc su
    rw [if_neg (by omega), if_pos (by omega), if_neg (by omega), if_pos (by omega), if_pos rfl]; grind
  · intro i h0 hi
    unfold ad sc
    rw [if_neg (by omega), if_pos hi, if_neg (by omega), if_pos hi, if_pos rfl]; grind
theorem su_sym {n : Nat} {A : Mx} (h : isSym (n + 1) A) : isSym n (su A) := by
  intro i j hi hj; unfold su
  rw [h (i + 1) (j + 1) (by omega) (by omega), h (i + 1) 0 (by omega) (by omega), h 0 (j + 1) (by omega) (by omega)]; grind
/-- a vector with a first one -/
def cn (a : Int) (x : Nat → Int) : Nat → Int := fun i => match i with | 0 => a | i + 1 => x i
theorem mv_cn (n : Nat) (A : Mx) (a : Int) (x : Nat → Int) (i : Nat) : mv (n + 1) A (cn a x) i = A i 0 * a + sm n (fun j => A i (j + 1) * x j) := sm_first n _
theorem mv_su (n : Nat) (A : Mx) (x : Nat → Int) (i : Nat) : mv n (su A) x i = A 0 0 * sm n (fun j => A (i + 1) (j + 1) * x j) - A (i + 1) 0 * sm n (fun j => A 0 (j + 1) * x j) := by
  unfold mv su
  rw [← sm_mul, ← sm_mul, ← sm_sub]
  exact sm_ext (fun j _ => by grind)
theorem qf_su {n : Nat} {A : Mx} (x : Nat → Int) : qf (n + 1) A (cn (- sm n (fun j => A 0 (j + 1) * x j)) (fun i => A 0 0 * x i)) = A 0 0 * qf n (su A) x := by
  generalize hs : sm n (fun j => A 0 (j + 1) * x j) = s
  have e1 : ∀ i, mv (n + 1) A (cn (-s) (fun i => A 0 0 * x i)) i = A 0 0 * sm n (fun j => A i (j + 1) * x j) - A i 0 * s := by
    intro i; rw [mv_cn, ← sm_mul, sm_ext (g := fun j => A 0 0 * (A i (j + 1) * x j)) (fun j _ => by grind)]; grind
  have e2 : ∀ i, mv n (su A) x i = mv (n + 1) A (cn (-s) (fun i => A 0 0 * x i)) (i + 1) := by
    intro i; rw [e1, mv_su, hs]
  have e0 : mv (n + 1) A (cn (-s) (fun i => A 0 0 * x i)) 0 = 0 := by rw [e1, hs]; grind
  unfold qf
  rw [sm_first, e0, ← sm_mul]
  rw [sm_ext (f := fun i => cn (-s) (fun i => A 0 0 * x i) (i + 1) * mv (n + 1) A (cn (-s) (fun i => A 0 0 * x i)) (i + 1)) (g := fun i => A 0 0 * (x i * mv n (su A) x i)) (fun i _ => by rw [e2]; show A 0 0 * x i * _ = _; grind)]
  simp
theorem qf_unit {n : Nat} {A : Mx} (k : Nat) (hk : k < n) : qf n A (fun i => if i = k then 1 else 0) = A k k := by
  unfold qf mv
  rw [sm_one hk (fun i hi hn => by simp [hn]), sm_one hk (fun i hi hn => by simp [hn])]; simp
theorem pd_diag {n : Nat} {A : Mx} (h : isPD n A) {k : Nat} (hk : k < n) : 0 < A k k := by
  rw [← qf_unit (A := A) k hk]; exact h _ ⟨k, hk, by simp⟩
theorem su_pd {n : Nat} {A : Mx} (hs : isSym (n + 1) A) (h : isPD (n + 1) A) : isPD n (su A) := by
  intro x ⟨i, hi, hx⟩
  have ha := pd_diag h (k := 0) (by omega)
  have := h (cn (- sm n (fun j => A 0 (j + 1) * x j)) (fun i => A 0 0 * x i)) ⟨i + 1, by omega, by
    show A 0 0 * x i ≠ 0
    exact Int.mul_ne_zero (by omega) hx⟩
  rw [qf_su] at this
  exact Int.pos_of_mul_pos_right this (by omega)
theorem dt_pos : ∀ (n : Nat) (A : Mx), isSym n A → isPD n A → 0 < dt n A ∧ dt n A ≤ pr n (fun i => A i i)
  | 0, _, _, _ => ⟨Int.one_pos, Int.le_refl _⟩
  | n + 1, A, hs, h => by
    have ha := pd_diag h (k := 0) (by omega)
    obtain ⟨h1, h2⟩ := dt_pos n (su A) (su_sym hs) (su_pd hs h)
    have e := dt_su n A
    have hp : 0 < A 0 0 ^ n := Int.pow_pos ha
    constructor
    · have : 0 < A 0 0 ^ n * dt (n + 1) A := by rw [e]; exact Int.mul_pos ha h1
      exact Int.pos_of_mul_pos_right this (by omega)
    · have h3 : pr n (fun i => su A i i) ≤ pr n (fun i => A 0 0 * A (i + 1) (i + 1)) := by
        refine pr_le (fun i hi => ⟨?_, ?_⟩)
        · exact Int.le_of_lt (pd_diag (su_pd hs h) hi)
        · show A 0 0 * A (i + 1) (i + 1) - A (i + 1) 0 * A 0 (i + 1) ≤ _
          rw [hs 0 (i + 1) (by omega) (by omega)]
          have : 0 ≤ A (i + 1) 0 * A (i + 1) 0 := by
            have := Int.natAbs_mul_self (a := A (i + 1) 0); omega
          omega
      rw [pr_scale] at h3
      have h4 : A 0 0 ^ n * dt (n + 1) A ≤ A 0 0 ^ n * pr (n + 1) (fun i => A i i) := by
        rw [e, pr_first]
        have := Int.mul_le_mul_of_nonneg_left (Int.le_trans h2 h3) (Int.le_of_lt ha)
        refine Int.le_trans this (Int.le_of_eq ?_)
        grind
      exact Int.le_of_mul_le_mul_left h4 hp
/-- some multiple of each vector is reached -/
theorem pd_onto : ∀ (n : Nat) (A : Mx), isSym n A → isPD n A → ∀ b : Nat → Int, ∃ (d : Int) (y : Nat → Int), 0 < d ∧ ∀ i, i < n → mv n A y i = d * b i
  | 0, _, _, _, _ => ⟨1, fun _ => 0, by decide, fun i hi => absurd hi (by omega)⟩
  | n + 1, A, hs, h, b => by
    have ha := pd_diag h (k := 0) (by omega)
    obtain ⟨d, y, hd, hy⟩ := pd_onto n (su A) (su_sym hs) (su_pd hs h) (fun i => A 0 0 * b (i + 1) - A (i + 1) 0 * b 0)
    refine ⟨A 0 0 * d, cn (d * b 0 - sm n (fun j => A 0 (j + 1) * y j)) (fun i => A 0 0 * y i), Int.mul_pos ha hd, fun i hi => ?_⟩
    generalize hS : sm n (fun j => A 0 (j + 1) * y j) = s
    have e1 : mv (n + 1) A (cn (d * b 0 - s) (fun i => A 0 0 * y i)) i = A 0 0 * sm n (fun j => A i (j + 1) * y j) + A i 0 * (d * b 0 - s) := by
      rw [mv_cn, ← sm_mul, sm_ext (g := fun j => A 0 0 * (A i (j + 1) * y j)) (fun j _ => by grind)]; grind
    rw [e1]
    cases i with
    | zero => rw [hS]; grind
    | succ i =>
      have := hy i (by omega)
      rw [mv_su, hS] at this
      grind
/-- the moves times the determinant -/
def nm (n : Nat) (A : Mx) (b : Nat → Int) (i : Nat) : Int := dt n (rw1 A i b)
theorem nm_lin {n : Nat} {A : Mx} {i : Nat} (hi : i < n) (d : Int) (b : Nat → Int) : nm n A (fun j => d * b j) i = d * nm n A b i := by
  have := dt_lin n A i hi d 0 b b
  simp only [Int.zero_mul, Int.add_zero] at this
  exact this
theorem nm_solves {n : Nat} {A : Mx} (hs : isSym n A) (h : isPD n A) (b : Nat → Int) {j : Nat} (hj : j < n) : mv n A (nm n A b) j = dt n A * b j := by
  obtain ⟨d, y, hd, hy⟩ := pd_onto n A hs h b
  have hb : ∀ i, i < n → d * nm n A b i = y i * dt n A := by
    intro i hi
    rw [← nm_lin hi, ← dt_cramer hi A y]
    refine dt_ext n (fun a c ha hc => ?_)
    unfold rw1
    split
    · show d * b c = sm n (fun i => y i * A i c)
      rw [← hy c hc]; exact sm_ext (fun z hz => by rw [hs c z hc hz]; grind)
    · rfl
  have : d * mv n A (nm n A b) j = d * (dt n A * b j) := by
    unfold mv
    rw [← sm_mul, sm_ext (g := fun z => (A j z * y z) * dt n A) (fun z hz => by
      have := hb z hz
      calc d * (A j z * nm n A b z) = A j z * (d * nm n A b z) := by grind
        _ = _ := by rw [this]; grind), sm_mulr]
    have := hy j hj
    unfold mv at this
    rw [this]; grind
  exact Int.eq_of_mul_eq_mul_left (by omega) this
/-! REMAINDERS -/
def cg (p a b : Int) : Prop := p ∣ a - b
theorem cg_refl (p a : Int) : cg p a a := by unfold cg; rw [Int.sub_self]; exact Int.dvd_zero p
theorem cg_symm {p a b : Int} (h : cg p a b) : cg p b a := by
  have := Int.dvd_neg.mpr h; rwa [Int.neg_sub] at this
theorem cg_trans {p a b c : Int} (h : cg p a b) (h' : cg p b c) : cg p a c := by
  have := Int.dvd_add h h'
  rwa [show a - b + (b - c) = a - c by omega] at this
theorem cg_add {p a b c d : Int} (h : cg p a b) (h' : cg p c d) : cg p (a + c) (b + d) := by
  have := Int.dvd_add h h'
  rwa [show a - b + (c - d) = a + c - (b + d) by omega] at this
theorem cg_neg {p a b : Int} (h : cg p a b) : cg p (-a) (-b) := by
  have := Int.dvd_neg.mpr h
  rwa [show -(a - b) = -a - -b by omega] at this
theorem cg_sub {p a b c d : Int} (h : cg p a b) (h' : cg p c d) : cg p (a - c) (b - d) := by
  rw [Int.sub_eq_add_neg, Int.sub_eq_add_neg]; exact cg_add h (cg_neg h')
theorem cg_mul {p a b c d : Int} (h : cg p a b) (h' : cg p c d) : cg p (a * c) (b * d) := by
  obtain ⟨x, hx⟩ := h; obtain ⟨y, hy⟩ := h'
  exact ⟨x * c + b * y, by
    have e1 : a = b + p * x := by omega
    have e2 : c = d + p * y := by omega
    rw [e1, e2]; grind⟩
theorem cg_mod (p a : Int) : cg p (a % p) a := by
  refine cg_symm ⟨a / p, ?_⟩
  have := Int.mul_ediv_add_emod a p; omega
theorem cg_of_mod {p a b : Int} (h : a % p = b % p) : cg p a b := cg_trans (cg_symm (cg_mod p a)) (by rw [h]; exact cg_mod p b)
theorem mod_of_cg {p a b : Int} (h : cg p a b) : a % p = b % p := Int.emod_eq_emod_iff_emod_sub_eq_zero.mpr (Int.emod_eq_zero_of_dvd h)
theorem cg_of_eq {p a b : Int} (h : a = b) : cg p a b := by rw [h]; exact cg_refl p b
theorem cg_zero {p a : Int} : cg p a 0 ↔ p ∣ a := by unfold cg; rw [Int.sub_zero]
theorem cg_p (p : Int) : cg p p 0 := cg_zero.mpr (Int.dvd_refl p)
theorem sm_cg {p : Int} {n : Nat} {f g : Nat → Int} (h : ∀ i, i < n → cg p (f i) (g i)) : cg p (sm n f) (sm n g) := by
  induction n with
  | zero => exact cg_refl _ _
  | succ n ih => exact cg_add (ih (fun i hi => h i (by omega))) (h n (by omega))
theorem dt_cg {p : Int} : ∀ (n : Nat) {M N : Mx}, (∀ i j, i < n → j < n → cg p (M i j) (N i j)) → cg p (dt n M) (dt n N)
  | 0, _, _, _ => cg_refl _ _
  | n + 1, M, N, h => by
    refine sm_cg (fun i hi => cg_mul (cg_mul (cg_refl _ _) (h i 0 hi (by omega))) ?_)
    exact dt_cg n (fun r c hr hc => h (sk i r) (c + 1) (by unfold sk; split <;> omega) (by omega))
theorem dt_cg0 {p : Int} {n : Nat} {M : Mx} (h : ∀ i, 0 < i → i < n + 1 → cg p (M i 0) 0) : cg p (dt (n + 1) M) (M 0 0 * dt n (fun i j => M (i + 1) (j + 1))) := by
  refine cg_trans (dt_cg (n + 1) (N := fun i j => if 0 < i ∧ j = 0 then 0 else M i j) (fun i j hi hj => ?_)) (cg_of_eq ?_)
  · by_cases e : 0 < i ∧ j = 0
    · simp only [if_pos e]; rw [e.2]; exact h i e.1 hi
    · simp only [if_neg e]; exact cg_refl _ _
  · rw [dt_col0 n _ (fun i h0 _ => by rw [if_pos ⟨h0, rfl⟩])]
    rw [if_neg (by omega)]
    congr 1
theorem dt_tri {p : Int} : ∀ (c m : Nat) (W : Mx), (∀ k, k < c → cg p (W k k) 1) → (∀ k r, k < c → k < r → r < c + m → cg p (W r k) 0) → cg p (dt (c + m) W) (dt m (fun i j => W (i + c) (j + c)))
  | 0, m, W, _, _ => by rw [Nat.zero_add]; exact cg_refl _ _
  | c + 1, m, W, h1, h2 => by
    rw [show c + 1 + m = c + m + 1 by omega]
    refine cg_trans (dt_cg0 (fun i h0 hi => h2 0 i (by omega) h0 (by omega))) ?_
    have ih := dt_tri c m (fun i j => W (i + 1) (j + 1)) (fun k hk => h1 (k + 1) (by omega)) (fun k r hk hr hr' => h2 (k + 1) (r + 1) (by omega) (by omega) (by omega))
    have := cg_mul (h1 0 (by omega)) ih
    rw [Int.one_mul] at this
    refine cg_trans this (cg_of_eq (dt_ext m (fun i j _ _ => ?_)))
    show W (i + c + 1) (j + c + 1) = W (i + (c + 1)) (j + (c + 1)); rfl
theorem dt_tri1 {p : Int} {n : Nat} {W : Mx} (h1 : ∀ k, k < n → cg p (W k k) 1) (h2 : ∀ k r, k < n → k < r → r < n → cg p (W r k) 0) : cg p (dt n W) 1 := dt_tri n 0 W h1 h2
theorem dt_tri0 {p : Int} {c n : Nat} {W : Mx} (hc : c < n) (h1 : ∀ k, k < c → cg p (W k k) 1) (h2 : ∀ k r, k < c → k < r → r < n → cg p (W r k) 0) (h3 : ∀ r, c ≤ r → r < n → cg p (W r c) 0) : cg p (dt n W) 0 := by
  obtain ⟨m, rfl⟩ : ∃ m, n = c + (m + 1) := ⟨n - c - 1, by omega⟩
  refine cg_trans (dt_tri c (m + 1) W h1 h2) ?_
  refine cg_trans (dt_cg0 (fun i h0 hi => ?_)) ?_
  · show cg p (W (i + c) (0 + c)) 0
    rw [Nat.zero_add]; exact h3 _ (by omega) (by omega)
  · have := cg_mul (h3 c (by omega) (by omega)) (cg_refl p (dt m (fun i j => W (i + 1 + c) (j + 1 + c))))
    rw [Int.zero_mul] at this
    show cg p (W (0 + c) (0 + c) * _) 0
    rw [Nat.zero_add]; exact this
/-- a crude bound -/
theorem skip_le : ∀ (n : Nat) (a R : Nat → Int), (∀ i, 0 ≤ a i) → (∀ i, 0 ≤ R i) → sm (n + 1) (fun i => a i * pr n (fun r => R (sk i r))) ≤ pr (n + 1) (fun i => a i + R i)
  | 0, a, R, ha, hR => by
    have := hR 0
    simp only [sm, pr]; omega
  | n + 1, a, R, ha, hR => by
    have ih := skip_le n a R ha hR
    have e : sm (n + 1 + 1) (fun i => a i * pr (n + 1) (fun r => R (sk i r))) = sm (n + 1) (fun i => a i * pr n (fun r => R (sk i r))) * R (n + 1) + a (n + 1) * pr (n + 1) R := by
      show sm (n + 1) _ + _ = _
      rw [← sm_mulr]
      congr 1
      · refine sm_ext (fun i hi => ?_)
        show a i * (pr n (fun r => R (sk i r)) * R (sk i n)) = _
        rw [show sk i n = n + 1 by unfold sk; rw [if_neg (by omega)], Int.mul_assoc]
      · show a (n + 1) * pr (n + 1) (fun r => R (sk (n + 1) r)) = _
        congr 1
        exact pr_ext (fun r hr => by unfold sk; rw [if_pos hr])
    rw [e]
    show _ ≤ pr (n + 1) (fun i => a i + R i) * (a (n + 1) + R (n + 1))
    have h1 := Int.mul_le_mul_of_nonneg_right ih (hR (n + 1))
    have h2 : pr (n + 1) R ≤ pr (n + 1) (fun i => a i + R i) := pr_le (fun i _ => ⟨hR i, by have := ha i; omega⟩)
    have h3 := Int.mul_le_mul_of_nonneg_left h2 (ha (n + 1))
    rw [Int.mul_add, Int.mul_comm (pr (n + 1) (fun i => a i + R i)) (a (n + 1))]
    omega
theorem sm_abs (n : Nat) (f : Nat → Int) : ((sm n f).natAbs : Int) ≤ sm n (fun i => ((f i).natAbs : Int)) := by
  induction n with
  | zero => simp [sm]
  | succ n ih => show ((sm n f + f n).natAbs : Int) ≤ sm n _ + ((f n).natAbs : Int); have := Int.natAbs_add_le (sm n f) (f n); omega
theorem dt_bound : ∀ (n : Nat) (M : Mx), ((dt n M).natAbs : Int) ≤ pr n (fun i => sm n (fun j => ((M i j).natAbs : Int)))
  | 0, _ => by simp [dt, pr]
  | n + 1, M => by
    refine Int.le_trans (sm_abs _ _) ?_
    have h := skip_le n (fun i => ((M i 0).natAbs : Int)) (fun i => sm n (fun j => ((M i (j + 1)).natAbs : Int))) (fun i => by omega) (fun i => sm_nn (fun j _ => by omega))
    refine Int.le_trans (sm_le (fun i hi => ?_)) (Int.le_trans h (Int.le_of_eq (pr_ext (fun i _ => (sm_first n (fun j => ((M i j).natAbs : Int))).symm))))
    have hb := dt_bound n (mn i M)
    rw [Int.natAbs_mul, Int.natAbs_mul]
    have hs : (sg i).natAbs = 1 := by unfold sg; split <;> rfl
    rw [hs, Nat.one_mul, Int.natCast_mul]
    exact Int.mul_le_mul_of_nonneg_left hb (by omega)
