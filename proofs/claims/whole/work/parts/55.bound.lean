/-! BOUNDS -/
theorem k45 : ∀ k : Nat, k * 4 ^ k * 625 ≤ 1024 * 5 ^ k
  | 0 => by decide
  | 1 => by decide
  | 2 => by decide
  | 3 => by decide
  | 4 => by decide
  | k + 5 => by
    have ih := k45 (k + 4)
    have h : (k + 5) * 4 ≤ (k + 4) * 5 := by omega
    have e1 : (k + 5) * 4 ^ (k + 5) * 625 = (k + 5) * 4 * (4 ^ (k + 4) * 625) := by rw [Nat.pow_succ]; grind
    have e2 : 1024 * 5 ^ (k + 5) = 1024 * 5 ^ (k + 4) * 5 := by rw [Nat.pow_succ]; grind
    rw [e1, e2]
    have h1 := Nat.mul_le_mul_right (4 ^ (k + 4) * 625) h
    have h2 := Nat.mul_le_mul_right 5 ih
    have e3 : (k + 4) * 5 * (4 ^ (k + 4) * 625) = (k + 4) * 4 ^ (k + 4) * 625 * 5 := by grind
    omega
def smn : Nat → (Nat → Nat) → Nat
  | 0, _ => 0
  | n + 1, f => smn n f + f n
theorem prod45 (k : Nat → Nat) : ∀ n, prn n k * 4 ^ smn n k * 625 ^ n ≤ 1024 ^ n * 5 ^ smn n k
  | 0 => Nat.le_refl _
  | n + 1 => by
    have h := Nat.mul_le_mul (prod45 k n) (k45 (k n))
    have e1 : prn (n + 1) k * 4 ^ smn (n + 1) k * 625 ^ (n + 1) = prn n k * 4 ^ smn n k * 625 ^ n * (k n * 4 ^ k n * 625) := by
      show prn n k * k n * 4 ^ (smn n k + k n) * 625 ^ (n + 1) = _
      rw [Nat.pow_add, Nat.pow_succ]; grind
    have e2 : 1024 ^ (n + 1) * 5 ^ smn (n + 1) k = 1024 ^ n * 5 ^ smn n k * (1024 * 5 ^ k n) := by
      show 1024 ^ (n + 1) * 5 ^ (smn n k + k n) = _
      rw [Nat.pow_add, Nat.pow_succ]; grind
    rw [e1, e2]; exact h
theorem prod_k {k : Nat → Nat} {n : Nat} (hn : n ≤ 20) (hs : smn n k ≤ 91) : prn n k < 2 ^ 44 := by
  have h := prod45 k n
  generalize smn n k = K at h hs
  generalize prn n k = P at h ⊢
  have h1 : P * (4 ^ 91 * 625 ^ 20) ≤ 1024 ^ 20 * 5 ^ 91 := by
    have e4 : (4 : Nat) ^ 91 = 4 ^ K * 4 ^ (91 - K) := by rw [← Nat.pow_add]; congr 1; omega
    have e5 : (5 : Nat) ^ 91 = 5 ^ K * 5 ^ (91 - K) := by rw [← Nat.pow_add]; congr 1; omega
    have e6 : (625 : Nat) ^ 20 = 625 ^ n * 625 ^ (20 - n) := by rw [← Nat.pow_add]; congr 1; omega
    have e7 : (1024 : Nat) ^ 20 = 1024 ^ n * 1024 ^ (20 - n) := by rw [← Nat.pow_add]; congr 1; omega
    rw [e4, e5, e6, e7]
    have h2 := Nat.mul_le_mul h (Nat.mul_le_mul (Nat.pow_le_pow_left (show 4 ≤ 5 by decide) (91 - K)) (Nat.pow_le_pow_left (show 625 ≤ 1024 by decide) (20 - n)))
    have e8 : P * 4 ^ K * 625 ^ n * (4 ^ (91 - K) * 625 ^ (20 - n)) = P * (4 ^ K * 4 ^ (91 - K) * (625 ^ n * 625 ^ (20 - n))) := by grind
    have e9 : 1024 ^ n * 5 ^ K * (5 ^ (91 - K) * 1024 ^ (20 - n)) = 1024 ^ n * 1024 ^ (20 - n) * (5 ^ K * 5 ^ (91 - K)) := by grind
    rw [e8, e9] at h2
    exact h2
  have h3 : (1024 : Nat) ^ 20 * 5 ^ 91 < 2 ^ 44 * (4 ^ 91 * 625 ^ 20) := by decide +kernel
  exact Nat.lt_of_mul_lt_mul_right (Nat.lt_of_le_of_lt h1 h3)
theorem smn_k (a : Nat → Nat) : ∀ n, 2048 * smn n (fun i => (a i + 2047) / 2048) ≤ smn n a + 2047 * n
  | 0 => Nat.le_refl _
  | n + 1 => by
    have := smn_k a n
    show 2048 * (smn n _ + (a n + 2047) / 2048) ≤ smn n a + a n + 2047 * (n + 1)
    omega
theorem prn_le {n : Nat} {f g : Nat → Nat} (h : ∀ i, i < n → f i ≤ g i) : prn n f ≤ prn n g := by
  induction n with
  | zero => exact Nat.le_refl 1
  | succ n ih => exact Nat.mul_le_mul (ih (fun i hi => h i (by omega))) (h n (by omega))
theorem prod_diag {a : Nat → Nat} {n : Nat} (hn : n ≤ 20) (hs : smn n a ≤ 147332) : prn n a < 2 ^ 264 := by
  have h1 := smn_k a n
  have h2 := prod_k (k := fun i => (a i + 2047) / 2048) hn (by omega)
  have h3 : prn n a ≤ prn n (fun i => 2048 * ((a i + 2047) / 2048)) := prn_le (fun i _ => by omega)
  rw [prn_mul, prn_const] at h3
  have h4 : (2048 : Nat) ^ n ≤ 2048 ^ 20 := Nat.pow_le_pow_right (by decide) hn
  have h5 := Nat.mul_lt_mul_of_le_of_lt h4 h2 (by exact Nat.pow_pos (by decide))
  have e : (2048 : Nat) ^ 20 * 2 ^ 44 = 2 ^ 264 := by decide +kernel
  omega
theorem pr_prn {n : Nat} {f : Nat → Int} {g : Nat → Nat} (h : ∀ i, i < n → f i = g i) : pr n f = (prn n g : Int) := by
  induction n with
  | zero => rfl
  | succ n ih => show pr n f * f n = ((prn n g * g n : Nat) : Int); rw [ih (fun i hi => h i (by omega)), h n (by omega)]; push_cast; rfl
theorem sm_smn {n : Nat} {f : Nat → Int} {g : Nat → Nat} (h : ∀ i, i < n → f i = g i) : sm n f = (smn n g : Int) := by
  induction n with
  | zero => rfl
  | succ n ih => show sm n f + f n = ((smn n g + g n : Nat) : Int); rw [ih (fun i hi => h i (by omega)), h n (by omega)]; push_cast; rfl
theorem pr_diag {a : Nat → Int} {n : Nat} (hn : n ≤ 20) (h0 : ∀ i, i < n → 0 ≤ a i) (hs : sm n a ≤ 147332) : pr n a < 2 ^ 264 := by
  have e1 := pr_prn (f := a) (g := fun i => (a i).toNat) (n := n) (fun i hi => by have := h0 i hi; omega)
  have e2 := sm_smn (f := a) (g := fun i => (a i).toNat) (n := n) (fun i hi => by have := h0 i hi; omega)
  have := prod_diag (a := fun i => (a i).toNat) hn (by omega)
  rw [e1]
  have e3 : ((2 : Int) ^ 264) = ((2 ^ 264 : Nat) : Int) := (Int.natCast_pow 2 264).symm
  rw [e3]; exact Int.ofNat_lt.mpr this
/-- the trace -/
theorem dl1_sq (x i : Nat) : dl1 x i * dl1 x i = dl1 x i := by unfold dl1; split <;> rfl
theorem dl1_nn (x i : Nat) : 0 ≤ dl1 x i := by unfold dl1; split <;> decide
theorem sm_dl1c {n x : Nat} (hx : x < n) : sm n (fun i => dl1 x i) = 1 := by
  have := sm_dl1 hx (fun _ => 1)
  simpa using this
theorem dl_sq_le (τ : Tm) (i : Nat) : dl τ i * dl τ i ≤ dl1 τ.1 i + dl1 τ.2.1 i := by
  unfold dl dl1
  by_cases e : τ.1 = i <;> by_cases g : τ.2.1 = i <;> simp [e, g]
theorem trace_le {n : Nat} {T : List Tm} {E : List Nat} {e : Int} (h : tIn n T E) {w : Int} (hw : ∀ τ, τ ∈ T → τ.2.2.1 ≤ w) (hew : e ≤ w) : sm n (fun i => tA T E e i i) ≤ w * (2 * T.length + E.length) := by
  have h1 : sm n (fun i => tA T E e i i) ≤ sm n (fun i => ls (fun τ => τ.2.2.1 * (dl1 τ.1 i + dl1 τ.2.1 i)) T + ls (fun x => e * dl1 x i) E) := by
    refine sm_le (fun i hi => ?_)
    unfold tA
    have a1 : ls (fun τ => τ.2.2.1 * (dl τ i * dl τ i)) T ≤ ls (fun τ => τ.2.2.1 * (dl1 τ.1 i + dl1 τ.2.1 i)) T := ls_le (fun τ ht => Int.mul_le_mul_of_nonneg_left (dl_sq_le τ i) (h.1 τ ht).2.2)
    have a2 : e * ls (fun x => dl1 x i * dl1 x i) E = ls (fun x => e * dl1 x i) E := by rw [← ls_mul]; exact ls_ext (fun x _ => by rw [dl1_sq])
    omega
  refine Int.le_trans h1 ?_
  rw [sm_add, sm_ls, sm_ls]
  have a1 : ls (fun τ => sm n (fun i => τ.2.2.1 * (dl1 τ.1 i + dl1 τ.2.1 i))) T ≤ ls (fun _ => w * 2) T := by
    refine ls_le (fun τ ht => ?_)
    rw [sm_mul, sm_add, sm_dl1c (h.1 τ ht).1, sm_dl1c (h.1 τ ht).2.1]
    have := hw τ ht
    omega
  have a2 : ls (fun x => sm n (fun i => e * dl1 x i)) E ≤ ls (fun _ => w) E := by
    refine ls_le (fun x hx => ?_)
    rw [sm_mul, sm_dl1c (h.2 x hx)]; omega
  rw [ls_const] at a1 a2
  refine Int.le_trans (Int.add_le_add a1 a2) (Int.le_of_eq ?_)
  grind
theorem tA_diag_nn {n : Nat} {T : List Tm} {E : List Nat} {e : Int} (h : tIn n T E) (he : 0 ≤ e) (i : Nat) : 0 ≤ tA T E e i i := by
  have h1 : 0 ≤ ls (fun τ => τ.2.2.1 * (dl τ i * dl τ i)) T := ls_nn (fun τ ht => Int.mul_nonneg (h.1 τ ht).2.2 (sq_nn _))
  have h2 : 0 ≤ e * ls (fun x => dl1 x i * dl1 x i) E := Int.mul_nonneg he (ls_nn (fun x _ => sq_nn _))
  unfold tA; omega
/-- a row -/
theorem ls_abs {α : Type} (f : α → Int) : ∀ l : List α, ((ls f l).natAbs : Int) ≤ ls (fun a => ((f a).natAbs : Int)) l
  | [] => by simp [ls]
  | a :: l => by
    have := ls_abs f l
    have := Int.natAbs_add_le (f a) (ls f l)
    show ((f a + ls f l).natAbs : Int) ≤ ((f a).natAbs : Int) + _
    omega
theorem abs_mul3 (w a b : Int) : ((w * (a * b)).natAbs : Int) = (w.natAbs : Int) * ((a.natAbs : Int) * (b.natAbs : Int)) := by
  rw [Int.natAbs_mul, Int.natAbs_mul]; push_cast; rfl
theorem dl_abs_sum {n : Nat} {τ : Tm} (hx : τ.1 < n) (hy : τ.2.1 < n) : sm n (fun j => ((dl τ j).natAbs : Int)) ≤ 2 := by
  have h1 : sm n (fun j => ((dl τ j).natAbs : Int)) ≤ sm n (fun j => dl1 τ.1 j + dl1 τ.2.1 j) := by
    refine sm_le (fun j _ => ?_)
    unfold dl dl1
    by_cases e : τ.1 = j <;> by_cases g : τ.2.1 = j <;> simp [e, g]
  rw [sm_add, sm_dl1c hx, sm_dl1c hy] at h1
  omega
theorem dl_abs_sq (τ : Tm) (i : Nat) : ((dl τ i).natAbs : Int) = dl τ i * dl τ i := by
  unfold dl dl1
  by_cases e : τ.1 = i <;> by_cases g : τ.2.1 = i <;> simp [e, g]
theorem row_le {n : Nat} {T : List Tm} {E : List Nat} {e : Int} (h : tIn n T E) (he : 0 ≤ e) (i : Nat) : sm n (fun j => ((tA T E e i j).natAbs : Int)) ≤ 2 * tA T E e i i := by
  have h1 : sm n (fun j => ((tA T E e i j).natAbs : Int)) ≤ sm n (fun j => ls (fun τ => τ.2.2.1 * (dl τ i * dl τ i) * ((dl τ j).natAbs : Int)) T + ls (fun x => e * dl1 x i * dl1 x j) E) := by
    refine sm_le (fun j _ => ?_)
    unfold tA
    have b1 := ls_abs (fun τ => τ.2.2.1 * (dl τ i * dl τ j)) T
    have b2 : ls (fun τ => ((τ.2.2.1 * (dl τ i * dl τ j)).natAbs : Int)) T = ls (fun τ => τ.2.2.1 * (dl τ i * dl τ i) * ((dl τ j).natAbs : Int)) T := by
      refine ls_ext (fun τ ht => ?_)
      have hw := (h.1 τ ht).2.2
      rw [abs_mul3, dl_abs_sq τ i, show (τ.2.2.1.natAbs : Int) = τ.2.2.1 by omega]; grind
    have b3 : e * ls (fun x => dl1 x i * dl1 x j) E = ls (fun x => e * dl1 x i * dl1 x j) E := by rw [← ls_mul]; exact ls_ext (fun x _ => by grind)
    have b4 : 0 ≤ ls (fun x => e * dl1 x i * dl1 x j) E := ls_nn (fun x _ => Int.mul_nonneg (Int.mul_nonneg he (dl1_nn x i)) (dl1_nn x j))
    have b5 := Int.natAbs_add_le (ls (fun τ => τ.2.2.1 * (dl τ i * dl τ j)) T) (e * ls (fun x => dl1 x i * dl1 x j) E)
    omega
  refine Int.le_trans h1 ?_
  rw [sm_add, sm_ls, sm_ls]
  have a1 : ls (fun τ => sm n (fun j => τ.2.2.1 * (dl τ i * dl τ i) * ((dl τ j).natAbs : Int))) T ≤ ls (fun τ => 2 * (τ.2.2.1 * (dl τ i * dl τ i))) T := by
    refine ls_le (fun τ ht => ?_)
    rw [sm_mul, Int.mul_comm 2]
    exact Int.mul_le_mul_of_nonneg_left (dl_abs_sum (h.1 τ ht).1 (h.1 τ ht).2.1) (Int.mul_nonneg (h.1 τ ht).2.2 (sq_nn _))
  have a2 : ls (fun x => sm n (fun j => e * dl1 x i * dl1 x j)) E = e * ls (fun x => dl1 x i * dl1 x i) E := by
    rw [← ls_mul]
    refine ls_ext (fun x hx => ?_)
    rw [sm_mul, sm_dl1c (h.2 x hx), dl1_sq]; simp
  have a3 : 0 ≤ e * ls (fun x => dl1 x i * dl1 x i) E := Int.mul_nonneg he (ls_nn (fun x _ => sq_nn _))
  rw [ls_mul] at a1
  rw [a2]
  unfold tA
  omega
theorem b_le {n : Nat} {T : List Tm} {E : List Nat} (h : tIn n T E) {w m : Int} (hw : ∀ τ, τ ∈ T → τ.2.2.1 ≤ w ∧ (τ.2.2.2.natAbs : Int) ≤ m) (hm : 0 ≤ m) : sm n (fun j => ((tB T j).natAbs : Int)) ≤ 2 * (w * m) * T.length := by
  have h1 : sm n (fun j => ((tB T j).natAbs : Int)) ≤ sm n (fun j => ls (fun τ => (w * m) * ((dl τ j).natAbs : Int)) T) := by
    refine sm_le (fun j _ => Int.le_trans (ls_abs _ T) (ls_le (fun τ ht => ?_)))
    have a := (h.1 τ ht).2.2
    obtain ⟨b, c⟩ := hw τ ht
    rw [Int.natAbs_mul, Int.natAbs_mul]; push_cast
    refine Int.mul_le_mul_of_nonneg_right ?_ (by omega)
    exact Int.mul_le_mul (by omega) c (by omega) (by omega)
  refine Int.le_trans h1 ?_
  rw [sm_ls, Int.mul_comm 2, ← ls_const]
  refine ls_le (fun τ ht => ?_)
  have a := (h.1 τ ht).2.2
  have b := (hw τ ht).1
  rw [sm_mul]
  exact Int.mul_le_mul_of_nonneg_left (dl_abs_sum (h.1 τ ht).1 (h.1 τ ht).2.1) (Int.mul_nonneg (by omega) hm)
theorem c_le {n : Nat} {T : List Tm} {E : List Nat} (h : tIn n T E) {w m : Int} (hw : ∀ τ, τ ∈ T → τ.2.2.1 ≤ w ∧ (τ.2.2.2.natAbs : Int) ≤ m) (hm : 0 ≤ m) : 0 ≤ tC T ∧ tC T ≤ w * m * m * T.length := by
  constructor
  · exact ls_nn (fun τ ht => by rw [Int.mul_assoc]; exact Int.mul_nonneg (h.1 τ ht).2.2 (sq_nn _))
  · rw [← ls_const]
    refine ls_le (fun τ ht => ?_)
    have a := (h.1 τ ht).2.2
    obtain ⟨b, c⟩ := hw τ ht
    have e : τ.2.2.1 * τ.2.2.2 * τ.2.2.2 = τ.2.2.1 * ((τ.2.2.2.natAbs : Int) * (τ.2.2.2.natAbs : Int)) := by rw [Int.mul_assoc, Int.natAbs_mul_self' τ.2.2.2]
    rw [e, Int.mul_assoc w]
    refine Int.mul_le_mul b (Int.mul_le_mul c c (by omega) hm) (Int.mul_nonneg (by omega) (by omega)) (by omega)
/-- moves -/
theorem nm_le {n : Nat} {A : Mx} {b : Nat → Int} {B : Int} (h1 : ∀ i, i < n → 1 ≤ A i i) (hr : ∀ i, i < n → sm n (fun j => ((A i j).natAbs : Int)) ≤ 2 * A i i) (hb : sm n (fun j => ((b j).natAbs : Int)) ≤ B) {i : Nat} (hi : i < n) : ((nm n A b i).natAbs : Int) ≤ B * (2 ^ n * pr n (fun i => A i i)) := by
  have hB : 0 ≤ B := Int.le_trans (sm_nn (fun j _ => by omega)) hb
  unfold nm
  refine Int.le_trans (dt_bound n _) ?_
  rw [← pr_scale]
  have key : ∀ m, m ≤ n → pr m (fun k => sm n (fun j => ((rw1 A i b k j).natAbs : Int))) ≤ (if i < m then B else 1) * pr m (fun k => 2 * A k k) := by
    intro m
    induction m with
    | zero => intro _; rw [if_neg (by omega)]; exact Int.le_refl _
    | succ m ih =>
      intro hm
      have ih := ih (by omega)
      show pr m _ * sm n (fun j => ((rw1 A i b m j).natAbs : Int)) ≤ _ * (pr m (fun k => 2 * A k k) * (2 * A m m))
      have hp0 : 0 ≤ pr m (fun k => 2 * A k k) := pr_nn (fun k hk => by have := h1 k (by omega); omega)
      have hm1 := h1 m (by omega)
      by_cases e : m = i
      · rw [if_neg (by omega), Int.one_mul] at ih
        rw [if_pos (by omega), e, rw1_at]
        rw [e] at hp0 ih hm1
        refine Int.le_trans (Int.mul_le_mul ih hb (sm_nn (fun j _ => by omega)) hp0) ?_
        have : pr i (fun k => 2 * A k k) * B * 1 ≤ pr i (fun k => 2 * A k k) * B * (2 * A i i) := Int.mul_le_mul_of_nonneg_left (by omega) (Int.mul_nonneg hp0 hB)
        refine Int.le_trans (by rw [Int.mul_one] at this; exact this) (Int.le_of_eq (by grind))
      · rw [rw1_ne _ e]
        have e2 : (if i < m + 1 then B else 1) = (if i < m then B else 1) := by
          by_cases g : i < m
          · rw [if_pos g, if_pos (by omega)]
          · rw [if_neg g, if_neg (by omega)]
        rw [e2, ← Int.mul_assoc]
        refine Int.mul_le_mul ih (hr m (by omega)) (sm_nn (fun j _ => by omega)) ?_
        refine Int.mul_nonneg ?_ hp0
        split
        · exact hB
        · decide
  have := key n (Nat.le_refl n)
  rw [if_pos hi] at this
  exact this
