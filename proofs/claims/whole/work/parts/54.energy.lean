/-! SUMS OF SQUARES -/
def ls {α : Type} (g : α → Int) : List α → Int
  | [] => 0
  | a :: l => g a + ls g l
theorem ls_app {α : Type} (g : α → Int) : ∀ (l m : List α), ls g (l ++ m) = ls g l + ls g m
  | [], m => by simp [ls]
  | a :: l, m => by show g a + ls g (l ++ m) = g a + ls g l + ls g m; rw [ls_app g l m]; omega
theorem ls_ext {α : Type} {f g : α → Int} : ∀ {l : List α}, (∀ a, a ∈ l → f a = g a) → ls f l = ls g l
  | [], _ => rfl
  | a :: l, h => by show f a + ls f l = g a + ls g l; rw [h a (List.mem_cons_self ..), ls_ext (fun b hb => h b (List.mem_cons_of_mem _ hb))]
theorem ls_add {α : Type} (f g : α → Int) : ∀ l : List α, ls (fun a => f a + g a) l = ls f l + ls g l
  | [] => rfl
  | a :: l => by simp only [ls, ls_add f g l]; omega
theorem ls_sub {α : Type} (f g : α → Int) : ∀ l : List α, ls (fun a => f a - g a) l = ls f l - ls g l
  | [] => rfl
  | a :: l => by simp only [ls, ls_sub f g l]; omega
theorem ls_mul {α : Type} (c : Int) (f : α → Int) : ∀ l : List α, ls (fun a => c * f a) l = c * ls f l
  | [] => by simp [ls]
  | a :: l => by simp only [ls, ls_mul c f l, Int.mul_add]
theorem ls_zero {α : Type} : ∀ l : List α, ls (fun _ => 0) l = 0
  | [] => rfl
  | a :: l => by simp only [ls, ls_zero l]; rfl
theorem ls_nn {α : Type} {f : α → Int} : ∀ {l : List α}, (∀ a, a ∈ l → 0 ≤ f a) → 0 ≤ ls f l
  | [], _ => Int.le_refl 0
  | a :: l, h => by
    have h1 := h a (List.mem_cons_self ..)
    have h2 := ls_nn (fun b hb => h b (List.mem_cons_of_mem _ hb))
    show 0 ≤ f a + ls f l; omega
theorem ls_le {α : Type} {f g : α → Int} : ∀ {l : List α}, (∀ a, a ∈ l → f a ≤ g a) → ls f l ≤ ls g l
  | [], _ => Int.le_refl 0
  | a :: l, h => by
    have h1 := h a (List.mem_cons_self ..)
    have h2 := ls_le (fun b hb => h b (List.mem_cons_of_mem _ hb))
    show f a + ls f l ≤ g a + ls g l; omega
theorem ls_eq0 {α : Type} {f : α → Int} : ∀ {l : List α}, (∀ a, a ∈ l → 0 ≤ f a) → ls f l = 0 → ∀ a, a ∈ l → f a = 0
  | [], _, _, _, ha => by cases ha
  | b :: l, h, h0, a, ha => by
    have h1 := h b (List.mem_cons_self ..)
    have h2 := ls_nn (fun b hb => h b (List.mem_cons_of_mem _ hb))
    have h3 : f b + ls f l = 0 := h0
    rcases List.mem_cons.mp ha with e | e
    · subst e; omega
    · exact ls_eq0 (fun b hb => h b (List.mem_cons_of_mem _ hb)) (by omega) a e
theorem sm_ls {α : Type} (n : Nat) (f : Nat → α → Int) : ∀ l : List α, sm n (fun i => ls (f i) l) = ls (fun a => sm n (fun i => f i a)) l
  | [] => sm_zero n
  | a :: l => by
    show sm n (fun i => f i a + ls (f i) l) = _
    rw [sm_add, sm_ls n f l]; rfl
theorem ls_const {α : Type} (c : Int) : ∀ l : List α, ls (fun _ => c) l = c * l.length
  | [] => by simp [ls]
  | a :: l => by simp only [ls, ls_const c l, List.length_cons]; push_cast; grind
/-- a term: weight times (x - y - t) squared -/
abbrev Tm : Type := Nat × Nat × Int × Int
def dl1 (x i : Nat) : Int := if x = i then 1 else 0
def dl (τ : Tm) (i : Nat) : Int := dl1 τ.1 i - dl1 τ.2.1 i
theorem sm_dl1 {n x : Nat} (hx : x < n) (f : Nat → Int) : sm n (fun i => dl1 x i * f i) = f x := by
  rw [sm_one hx (fun i _ hn => by unfold dl1; rw [if_neg (by omega)]; simp)]
  unfold dl1; simp
theorem sm_dl {n : Nat} {τ : Tm} (hx : τ.1 < n) (hy : τ.2.1 < n) (f : Nat → Int) : sm n (fun i => dl τ i * f i) = f τ.1 - f τ.2.1 := by
  rw [← sm_dl1 hx f, ← sm_dl1 hy f, ← sm_sub]
  exact sm_ext (fun i _ => by unfold dl; rw [Int.sub_mul])
def tA (T : List Tm) (E : List Nat) (e : Int) (i j : Nat) : Int := ls (fun τ => τ.2.2.1 * (dl τ i * dl τ j)) T + e * ls (fun x => dl1 x i * dl1 x j) E
def tB (T : List Tm) (i : Nat) : Int := ls (fun τ => τ.2.2.1 * τ.2.2.2 * dl τ i) T
def tC (T : List Tm) : Int := ls (fun τ => τ.2.2.1 * τ.2.2.2 * τ.2.2.2) T
def tIn (n : Nat) (T : List Tm) (E : List Nat) : Prop := (∀ τ, τ ∈ T → τ.1 < n ∧ τ.2.1 < n ∧ 0 ≤ τ.2.2.1) ∧ ∀ x, x ∈ E → x < n
theorem mv_tA {n : Nat} {T : List Tm} {E : List Nat} {e : Int} (h : tIn n T E) (z : Nat → Int) (i : Nat) : mv n (tA T E e) z i = ls (fun τ => τ.2.2.1 * dl τ i * (z τ.1 - z τ.2.1)) T + e * ls (fun x => dl1 x i * z x) E := by
  unfold mv tA
  rw [sm_ext (g := fun j => ls (fun τ => τ.2.2.1 * dl τ i * (dl τ j * z j)) T + e * ls (fun x => dl1 x i * (dl1 x j * z j)) E) (fun j _ => ?_), sm_add, sm_mul, sm_ls, sm_ls]
  · congr 1
    · exact ls_ext (fun τ ht => by rw [sm_mul, sm_dl (h.1 τ ht).1 (h.1 τ ht).2.1])
    · congr 1
      exact ls_ext (fun x hx => by rw [sm_mul, sm_dl1 (h.2 x hx)])
  · rw [Int.add_mul, Int.mul_assoc e, Int.mul_comm (ls _ T), Int.mul_comm (ls _ E), ← ls_mul, ← ls_mul]
    congr 1
    · exact ls_ext (fun τ _ => by grind)
    · congr 1
      exact ls_ext (fun x _ => by grind)
theorem qf_tA {n : Nat} {T : List Tm} {E : List Nat} {e : Int} (h : tIn n T E) (z : Nat → Int) : qf n (tA T E e) z = ls (fun τ => τ.2.2.1 * ((z τ.1 - z τ.2.1) * (z τ.1 - z τ.2.1))) T + e * ls (fun x => z x * z x) E := by
  unfold qf
  rw [sm_ext (g := fun i => ls (fun τ => τ.2.2.1 * (z τ.1 - z τ.2.1) * (dl τ i * z i)) T + e * ls (fun x => z x * (dl1 x i * z i)) E) (fun i _ => ?_), sm_add, sm_mul, sm_ls, sm_ls]
  · congr 1
    · exact ls_ext (fun τ ht => by rw [sm_mul, sm_dl (h.1 τ ht).1 (h.1 τ ht).2.1]; grind)
    · congr 1
      exact ls_ext (fun x hx => by rw [sm_mul, sm_dl1 (h.2 x hx)])
  · rw [mv_tA h, Int.mul_add, ← ls_mul]
    congr 1
    · exact ls_ext (fun τ _ => by grind)
    · rw [← Int.mul_assoc, Int.mul_comm (z i), Int.mul_assoc, ← ls_mul]
      congr 1
      exact ls_ext (fun x _ => by grind)
theorem sm_tB {n : Nat} {T : List Tm} {E : List Nat} (h : tIn n T E) (z : Nat → Int) : sm n (fun i => tB T i * z i) = ls (fun τ => τ.2.2.1 * τ.2.2.2 * (z τ.1 - z τ.2.1)) T := by
  unfold tB
  rw [sm_ext (g := fun i => ls (fun τ => τ.2.2.1 * τ.2.2.2 * (dl τ i * z i)) T) (fun i _ => by rw [Int.mul_comm, ← ls_mul]; exact ls_ext (fun τ _ => by grind)), sm_ls]
  exact ls_ext (fun τ ht => by rw [sm_mul, sm_dl (h.1 τ ht).1 (h.1 τ ht).2.1])
/-- the energy of z by d -/
def tQ (T : List Tm) (E : List Nat) (e d : Int) (z : Nat → Int) : Int := ls (fun τ => τ.2.2.1 * ((z τ.1 - z τ.2.1 - d * τ.2.2.2) * (z τ.1 - z τ.2.1 - d * τ.2.2.2))) T + e * ls (fun x => z x * z x) E
theorem tQ_eq {n : Nat} {T : List Tm} {E : List Nat} {e d : Int} (h : tIn n T E) (z : Nat → Int) : tQ T E e d z = qf n (tA T E e) z - 2 * d * sm n (fun i => tB T i * z i) + d * d * tC T := by
  rw [qf_tA h, sm_tB h]
  unfold tQ tC
  rw [← ls_mul (2 * d), ← ls_mul (d * d)]
  have : ls (fun τ => τ.2.2.1 * ((z τ.1 - z τ.2.1 - d * τ.2.2.2) * (z τ.1 - z τ.2.1 - d * τ.2.2.2))) T = ls (fun τ => τ.2.2.1 * ((z τ.1 - z τ.2.1) * (z τ.1 - z τ.2.1))) T - ls (fun τ => 2 * d * (τ.2.2.1 * τ.2.2.2 * (z τ.1 - z τ.2.1))) T + ls (fun τ => d * d * (τ.2.2.1 * τ.2.2.2 * τ.2.2.2)) T := by
    rw [← ls_sub, ← ls_add]
    exact ls_ext (fun τ _ => by grind)
  rw [this]; omega
theorem sq_nn (a : Int) : 0 ≤ a * a := by have := Int.natAbs_mul_self (a := a); omega
theorem tQ_nn {n : Nat} {T : List Tm} {E : List Nat} {e d : Int} (h : tIn n T E) (he : 0 ≤ e) (z : Nat → Int) : 0 ≤ tQ T E e d z := by
  have h1 : 0 ≤ ls (fun τ => τ.2.2.1 * ((z τ.1 - z τ.2.1 - d * τ.2.2.2) * (z τ.1 - z τ.2.1 - d * τ.2.2.2))) T := ls_nn (fun τ ht => Int.mul_nonneg (h.1 τ ht).2.2 (sq_nn _))
  have h2 : 0 ≤ e * ls (fun x => z x * z x) E := Int.mul_nonneg he (ls_nn (fun x _ => sq_nn _))
  unfold tQ; omega
theorem tA_sym (T : List Tm) (E : List Nat) (e : Int) (i j : Nat) : tA T E e i j = tA T E e j i := by
  unfold tA
  congr 1
  · exact ls_ext (fun τ _ => by rw [Int.mul_comm (dl τ i)])
  · congr 1
    exact ls_ext (fun x _ => by rw [Int.mul_comm (dl1 x i)])
/-! WHAT HANGS TOGETHER -/
def Cn (T : List Tm) (i j : Nat) : Prop := ∀ f : Nat → Int, (∀ τ, τ ∈ T → 0 < τ.2.2.1 → f τ.1 = f τ.2.1) → f i = f j
theorem Cn_refl (T : List Tm) (i : Nat) : Cn T i i := fun _ _ => rfl
theorem Cn_symm {T : List Tm} {i j : Nat} (h : Cn T i j) : Cn T j i := fun f hf => (h f hf).symm
theorem Cn_trans {T : List Tm} {i j k : Nat} (h : Cn T i j) (h' : Cn T j k) : Cn T i k := fun f hf => (h f hf).trans (h' f hf)
/-- i is the last that hangs together with it -/
def Ls (T : List Tm) (n i : Nat) : Prop := i < n ∧ ∀ j, i < j → j < n → ¬ Cn T i j
theorem Ls_ex (T : List Tm) (n : Nat) : ∀ (d i : Nat), i < n → n - i ≤ d → ∃ l, Ls T n l ∧ Cn T i l
  | 0, i, hi, h => absurd h (by omega)
  | d + 1, i, hi, h => by
    by_cases hl : Ls T n i
    · exact ⟨i, hl, Cn_refl T i⟩
    · have : ∃ j, i < j ∧ j < n ∧ Cn T i j := by
        refine Classical.byContradiction (fun hc => hl ⟨hi, fun j h1 h2 h3 => hc ⟨j, h1, h2, h3⟩⟩)
      obtain ⟨j, h1, h2, h3⟩ := this
      obtain ⟨l, h4, h5⟩ := Ls_ex T n d j h2 (by omega)
      exact ⟨l, h4, Cn_trans h3 h5⟩
/-- the matrix with the last ones held -/
noncomputable def hA (T : List Tm) (n : Nat) (A : Mx) : Mx := fun i j => @ite Int (Ls T n i ∨ Ls T n j) (Classical.propDecidable _) (dl1 i j) (A i j)
noncomputable def hB (T : List Tm) (n : Nat) (b : Nat → Int) : Nat → Int := fun i => @ite Int (Ls T n i) (Classical.propDecidable _) (0) (b i)
noncomputable def hZ (T : List Tm) (n : Nat) (z : Nat → Int) : Nat → Int := fun i => @ite Int (Ls T n i) (Classical.propDecidable _) (0) (z i)
theorem hA_sym {T : List Tm} {n : Nat} {A : Mx} (h : isSym n A) : isSym n (hA T n A) := by
  intro i j hi hj
  unfold hA
  by_cases e : Ls T n i ∨ Ls T n j
  · rw [if_pos e, if_pos (Or.comm.mp e)]
    unfold dl1
    by_cases g : i = j
    · rw [if_pos g, if_pos g.symm]
    · rw [if_neg g, if_neg (fun q => g q.symm)]
  · rw [if_neg e, if_neg (fun q => e (Or.comm.mp q))]; exact h i j hi hj
theorem mv_hA {T : List Tm} {n : Nat} {A : Mx} (z : Nat → Int) {i : Nat} (hi : i < n) : mv n (hA T n A) z i = @ite Int (Ls T n i) (Classical.propDecidable _) (z i) (mv n A (hZ T n z) i) := by
  unfold mv
  by_cases e : Ls T n i
  · rw [if_pos e, sm_one (k := i) hi (fun j _ hn => by unfold hA; rw [if_pos (Or.inl e)]; unfold dl1; rw [if_neg (by omega)]; simp)]
    unfold hA; rw [if_pos (Or.inl e)]; unfold dl1; simp
  · rw [if_neg e]
    refine sm_ext (fun j hj => ?_)
    unfold hA hZ
    by_cases g : Ls T n j
    · rw [if_pos (Or.inr g), if_pos g]
      unfold dl1
      rw [if_neg (fun q => e (by rw [q]; exact g))]; simp
    · rw [if_neg (fun q => q.elim e g), if_neg g]
theorem qf_hA {T : List Tm} {n : Nat} {A : Mx} (z : Nat → Int) : qf n (hA T n A) z = qf n A (hZ T n z) + sm n (fun i => @ite Int (Ls T n i) (Classical.propDecidable _) (z i * z i) (0)) := by
  unfold qf
  rw [← sm_add]
  refine sm_ext (fun i hi => ?_)
  rw [mv_hA z hi]
  by_cases e : Ls T n i
  · rw [if_pos e, if_pos e]; unfold hZ; rw [if_pos e]; simp
  · rw [if_neg e, if_neg e]
    have : hZ T n z i = z i := by unfold hZ; rw [if_neg e]
    rw [this]; simp
theorem sm_eq0 {n : Nat} {f : Nat → Int} (h : ∀ i, i < n → 0 ≤ f i) (h0 : sm n f = 0) : ∀ i, i < n → f i = 0 := by
  induction n with
  | zero => intro i hi; omega
  | succ n ih =>
    have h1 := h n (by omega)
    have h2 := sm_nn (fun i (hi : i < n) => h i (by omega))
    have h3 : sm n f + f n = 0 := h0
    intro i hi
    by_cases e : i = n
    · subst e; omega
    · exact ih (fun i hi => h i (by omega)) (by omega) i (by omega)
theorem sq_0 {a : Int} (h : a * a = 0) : a = 0 := by rcases Int.mul_eq_zero.mp h with e | e <;> exact e
/-- held, it is positive -/
theorem pd_hA {T : List Tm} {E : List Nat} {n : Nat} (h : tIn n T E) : isPD n (hA T n (tA T E 0)) := by
  intro z ⟨i, hi, hz⟩
  rw [qf_hA, qf_tA h]
  have n1 : ∀ τ, τ ∈ T → 0 ≤ τ.2.2.1 * ((hZ T n z τ.1 - hZ T n z τ.2.1) * (hZ T n z τ.1 - hZ T n z τ.2.1)) := fun τ ht => Int.mul_nonneg (h.1 τ ht).2.2 (sq_nn _)
  have n2 : ∀ i, i < n → 0 ≤ (@ite Int (Ls T n i) (Classical.propDecidable _) (z i * z i) (0)) := fun i _ => by
    split
    · exact sq_nn _
    · exact Int.le_refl 0
  have h1 := ls_nn n1
  have h2 := sm_nn n2
  rw [Int.zero_mul, Int.add_zero]
  refine Int.lt_iff_le_and_ne.mpr ⟨by omega, fun h0 => hz ?_⟩
  have e1 := ls_eq0 n1 (by omega)
  have e2 := sm_eq0 n2 (by omega)
  have e3 : ∀ l, Ls T n l → z l = 0 := fun l hl => by
    have := e2 l hl.1
    rw [if_pos hl] at this
    exact sq_0 this
  by_cases e : Ls T n i
  · exact e3 i e
  · obtain ⟨l, hl, hc⟩ := Ls_ex T n (n - i) i hi (Nat.le_refl _)
    have := hc (hZ T n z) (fun τ ht hw => by
      have := e1 τ ht
      rcases Int.mul_eq_zero.mp this with g | g
      · omega
      · have := sq_0 g; omega)
    have a1 : hZ T n z i = z i := by unfold hZ; rw [if_neg e]
    have a2 : hZ T n z l = 0 := by unfold hZ; rw [if_pos hl]
    omega
/-- with equal steps it is positive -/
theorem pd_tA {T : List Tm} {E : List Nat} {n : Nat} {e : Int} (h : tIn n T E) (he : 0 < e) (hE : ∀ i, i < n → i ∈ E) : isPD n (tA T E e) := by
  intro z ⟨i, hi, hz⟩
  rw [qf_tA h]
  have n1 : ∀ τ, τ ∈ T → 0 ≤ τ.2.2.1 * ((z τ.1 - z τ.2.1) * (z τ.1 - z τ.2.1)) := fun τ ht => Int.mul_nonneg (h.1 τ ht).2.2 (sq_nn _)
  have n2 : ∀ x, x ∈ E → 0 ≤ z x * z x := fun x _ => sq_nn _
  have h1 := ls_nn n1
  have h2 := ls_nn n2
  have h3 : 0 < ls (fun x => z x * z x) E := Int.lt_iff_le_and_ne.mpr ⟨h2, fun h0 => hz (sq_0 (ls_eq0 n2 h0.symm i (hE i hi)))⟩
  have := Int.mul_pos he h3
  omega
/-! THE LEAST ENERGY -/
theorem en_W {n : Nat} {T : List Tm} {E : List Nat} {e D : Int} {N b' : Nat → Int} {A' : Mx} (h : tIn n T E) (h1 : ∀ i, i < n → mv n A' N i = D * b' i) (h2 : qf n (tA T E e) N = qf n A' N) (h3 : sm n (fun i => tB T i * N i) = sm n (fun i => b' i * N i)) : D * (tC T * D - sm n (fun i => b' i * N i)) = tQ T E e D N := by
  rw [tQ_eq h, h2, h3]
  have : qf n A' N = D * sm n (fun i => b' i * N i) := by
    unfold qf
    rw [← sm_mul]
    exact sm_ext (fun i hi => by rw [h1 i hi]; grind)
  rw [this]; grind
theorem en_bound {n : Nat} {T : List Tm} {E : List Nat} {e D : Int} {N b' : Nat → Int} {A' : Mx} (h : tIn n T E) (he : 0 ≤ e) (hD : 0 < D) (hp : 0 ≤ qf n A' N) (h1 : ∀ i, i < n → mv n A' N i = D * b' i) (h2 : qf n (tA T E e) N = qf n A' N) (h3 : sm n (fun i => tB T i * N i) = sm n (fun i => b' i * N i)) : 0 ≤ tC T * D - sm n (fun i => b' i * N i) ∧ tC T * D - sm n (fun i => b' i * N i) ≤ tC T * D := by
  have e1 := en_W (e := e) h h1 h2 h3
  have e2 := tQ_nn (d := D) h he N
  rw [← e1] at e2
  have e3 : qf n A' N = D * sm n (fun i => b' i * N i) := by
    unfold qf
    rw [← sm_mul]
    exact sm_ext (fun i hi => by rw [h1 i hi]; grind)
  rw [e3] at hp
  constructor
  · exact Int.le_of_mul_le_mul_left (a := D) (by rw [Int.mul_zero]; exact e2) hD
  · have : 0 ≤ sm n (fun i => b' i * N i) := Int.le_of_mul_le_mul_left (a := D) (by rw [Int.mul_zero]; exact hp) hD
    omega
theorem pd_nn {n : Nat} {A : Mx} (h : isPD n A) (z : Nat → Int) : 0 ≤ qf n A z := by
  by_cases g : ∃ i, i < n ∧ z i ≠ 0
  · exact Int.le_of_lt (h z g)
  · refine Int.le_of_eq (Eq.symm (sm_z (fun i hi => ?_)))
    have : z i = 0 := Classical.byContradiction (fun q => g ⟨i, hi, q⟩)
    rw [this]; simp
/-- the held solution -/
theorem held_0 {n : Nat} {T : List Tm} {A : Mx} {b N : Nat → Int} {D : Int} (h1 : ∀ i, i < n → mv n (hA T n A) N i = D * hB T n b i) {l : Nat} (hl : Ls T n l) : N l = 0 := by
  have := h1 l hl.1
  rw [mv_hA N hl.1, if_pos hl] at this
  rw [this]; unfold hB; rw [if_pos hl]; simp
theorem held_Z {n : Nat} {T : List Tm} {N : Nat → Int} (h : ∀ l, Ls T n l → N l = 0) : hZ T n N = N := by
  funext i; unfold hZ
  by_cases e : Ls T n i
  · rw [if_pos e, h i e]
  · rw [if_neg e]
theorem held_row {n : Nat} {T : List Tm} {A : Mx} {b N : Nat → Int} {D : Int} (h1 : ∀ i, i < n → mv n (hA T n A) N i = D * hB T n b i) {i : Nat} (hi : i < n) (hn : ¬ Ls T n i) : mv n A N i = D * b i := by
  have := h1 i hi
  rw [mv_hA N hi, if_neg hn, held_Z (fun l hl => held_0 h1 hl)] at this
  rw [this]; unfold hB; rw [if_neg hn]
theorem held_qf {n : Nat} {T : List Tm} {A : Mx} {N : Nat → Int} (h : ∀ l, Ls T n l → N l = 0) : qf n A N = qf n (hA T n A) N := by
  rw [qf_hA, held_Z h, sm_z (fun i _ => ?_), Int.add_zero]
  by_cases e : Ls T n i
  · rw [if_pos e, h i e]; rfl
  · rw [if_neg e]
theorem held_b {n : Nat} {T : List Tm} {b N : Nat → Int} (h : ∀ l, Ls T n l → N l = 0) : sm n (fun i => b i * N i) = sm n (fun i => hB T n b i * N i) := by
  refine sm_ext (fun i _ => ?_)
  unfold hB
  by_cases e : Ls T n i
  · rw [if_pos e, h i e]; simp
  · rw [if_neg e]
/-- also at the held ones nothing is left -/
theorem held_all {n : Nat} {T : List Tm} {E : List Nat} (h : tIn n T E) {N : Nat → Int} {D : Int} (h1 : ∀ i, i < n → ¬ Ls T n i → mv n (tA T E 0) N i = D * tB T i) {l : Nat} (hl : l < n) : mv n (tA T E 0) N l = D * tB T l := by
  by_cases hL : Ls T n l
  · have hs : sm n (fun i => (@ite Int (Cn T l i) (Classical.propDecidable _) (1) (0)) * (mv n (tA T E 0) N i - D * tB T i)) = 0 := by
      rw [sm_ext (g := fun i => ls (fun τ => τ.2.2.1 * (N τ.1 - N τ.2.1 - D * τ.2.2.2) * (dl τ i * (@ite Int (Cn T l i) (Classical.propDecidable _) (1) (0)))) T) (fun i _ => ?_), sm_ls]
      · refine Eq.trans (ls_ext (g := fun _ => 0) (fun τ ht => ?_)) (ls_zero T)
        rw [sm_mul, sm_dl (h.1 τ ht).1 (h.1 τ ht).2.1]
        have hw := (h.1 τ ht).2.2
        rcases Int.lt_or_eq_of_le hw with g | g
        · have hc : Cn T τ.1 τ.2.1 := fun f hf => hf τ ht g
          have : (@ite Int (Cn T l τ.1) (Classical.propDecidable _) (1) (0)) = @ite Int (Cn T l τ.2.1) (Classical.propDecidable _) (1) (0) := by
            by_cases q : Cn T l τ.1
            · rw [if_pos q, if_pos (Cn_trans q hc)]
            · rw [if_neg q, if_neg (fun z => q (Cn_trans z (Cn_symm hc)))]
          rw [this]; simp
        · rw [← g]; simp
      · rw [mv_tA h]
        unfold tB
        rw [← ls_mul D, Int.zero_mul, Int.add_zero, ← ls_sub, ← ls_mul]
        exact ls_ext (fun τ _ => by grind)
    rw [sm_one (k := l) hl (fun i hi hn => ?_), if_pos (Cn_refl T l)] at hs
    · omega
    · by_cases q : Cn T l i
      · have : ¬ Ls T n i := fun z => by
          rcases Nat.lt_or_gt_of_ne hn with g | g
          · exact z.2 l g hl (Cn_symm q)
          · exact hL.2 i g hi q
        rw [h1 i hi this]; simp
      · rw [if_neg q]; simp
  · exact h1 l hl hL
/-! BY PLACES -/
def tB' (T : List Tm) (E : List Nat) (e : Int) (q : Nat → Int) (i : Nat) : Int := ls (fun τ => τ.2.2.1 * (τ.2.2.2 + (q τ.1 - q τ.2.1)) * dl τ i) T + e * ls (fun x => q x * dl1 x i) E
def tC' (T : List Tm) (E : List Nat) (e : Int) (q : Nat → Int) : Int := ls (fun τ => τ.2.2.1 * (τ.2.2.2 + (q τ.1 - q τ.2.1)) * (τ.2.2.2 + (q τ.1 - q τ.2.1))) T + e * ls (fun x => q x * q x) E
theorem tB'_eq {n : Nat} {T : List Tm} {E : List Nat} {e : Int} (h : tIn n T E) (q : Nat → Int) (i : Nat) : tB' T E e q i = tB T i + mv n (tA T E e) q i := by
  rw [mv_tA h]
  unfold tB' tB
  rw [← Int.add_assoc, ← ls_add]
  congr 1
  · exact ls_ext (fun τ _ => by grind)
  · congr 1
    exact ls_ext (fun x _ => Int.mul_comm _ _)
theorem tC'_eq {n : Nat} {T : List Tm} {E : List Nat} {e : Int} (h : tIn n T E) (q : Nat → Int) : tC' T E e q = tC T + 2 * sm n (fun i => tB T i * q i) + qf n (tA T E e) q := by
  rw [sm_tB h, qf_tA h]
  unfold tC' tC
  rw [← ls_mul (2 : Int), ← Int.add_assoc, ← ls_add, ← ls_add]
  congr 1
  exact ls_ext (fun τ _ => by grind)
theorem mv_lin {n : Nat} {A : Mx} (x y : Nat → Int) (c : Int) (i : Nat) : mv n A (fun j => x j + c * y j) i = mv n A x i + c * mv n A y i := by
  unfold mv
  rw [← sm_mul, ← sm_add]
  exact sm_ext (fun j _ => by grind)
theorem mv_swap {n : Nat} {A : Mx} (hs : isSym n A) (x y : Nat → Int) : sm n (fun i => x i * mv n A y i) = sm n (fun i => y i * mv n A x i) := by
  unfold mv
  rw [sm_ext (g := fun i => sm n (fun j => x i * (A i j * y j))) (fun i _ => by rw [sm_mul]), sm_comm]
  refine sm_ext (fun j hj => ?_)
  rw [← sm_mul]
  exact sm_ext (fun i hi => by rw [hs i j hi hj]; grind)
theorem W_places {n : Nat} {T : List Tm} {E : List Nat} {e D : Int} (h : tIn n T E) {N q : Nat → Int} (hall : ∀ i, i < n → mv n (tA T E e) N i = D * tB T i) : tC' T E e q * D - sm n (fun i => tB' T E e q i * (N i + D * q i)) = tC T * D - sm n (fun i => tB T i * N i) := by
  rw [tC'_eq h, sm_ext (f := fun i => tB' T E e q i * (N i + D * q i)) (g := fun i => (tB T i * N i + D * (tB T i * q i)) + (N i * mv n (tA T E e) q i + D * (q i * mv n (tA T E e) q i))) (fun i _ => by rw [tB'_eq h]; grind), sm_add, sm_add, sm_add, sm_mul, sm_mul]
  have e1 : sm n (fun i => N i * mv n (tA T E e) q i) = D * sm n (fun i => tB T i * q i) := by
    rw [mv_swap (fun i j _ _ => tA_sym T E e i j), ← sm_mul]
    exact sm_ext (fun i hi => by rw [hall i hi]; grind)
  have e2 : sm n (fun i => q i * mv n (tA T E e) q i) = qf n (tA T E e) q := rfl
  rw [e1, e2]; grind
/-- rows of the held ones alone -/
noncomputable def hM (T : List Tm) (n : Nat) (A : Mx) : Mx := fun i j => @ite Int (Ls T n i) (Classical.propDecidable _) (dl1 i j) (A i j)
def adk (m k : Nat) (y : Nat → Int) (M : Mx) : Mx := fun i j => if i = k then M i j else if i < m then M i j + y i * M k j else M i j
theorem dt_adk {n k : Nat} (hk : k < n) (y : Nat → Int) : ∀ m, m ≤ n → ∀ M : Mx, dt n (adk m k y M) = dt n M
  | 0, _, M => by rw [show adk 0 k y M = M by funext i j; unfold adk; by_cases e : i = k <;> simp [e]]
  | m + 1, h, M => by
    by_cases hmk : m = k
    · rw [show adk (m + 1) k y M = adk m k y M by
        funext i j; unfold adk
        by_cases e : i = k
        · rw [if_pos e, if_pos e]
        · rw [if_neg e, if_neg e]
          by_cases e1 : i < m
          · rw [if_pos e1, if_pos (by omega)]
          · rw [if_neg e1, if_neg (by omega)]]
      exact dt_adk hk y m (by omega) M
    · have e : adk (m + 1) k y M = rw1 (adk m k y M) m (fun j => adk m k y M m j + y m * adk m k y M k j) := by
        funext i j
        by_cases e : i = m
        · subst e; rw [rw1_at]; unfold adk; simp [hmk]
        · rw [rw1_ne _ e]; unfold adk
          by_cases e0 : i = k
          · simp [e0]
          · rw [if_neg e0, if_neg e0]
            by_cases e1 : i < m
            · rw [if_pos e1, if_pos (by omega)]
            · rw [if_neg e1, if_neg (by omega)]
      rw [e, dt_addmul (by omega) hk (by omega), dt_adk hk y m (by omega) M]
theorem dt_hM {T : List Tm} {n : Nat} {A : Mx} : dt n (hM T n A) = dt n (hA T n A) := by
  have key : ∀ k, k ≤ n → dt n (fun i j => @ite Int (Ls T n i) (Classical.propDecidable _) (dl1 i j) (@ite Int (Ls T n j ∧ j < k) (Classical.propDecidable _) (0) (A i j))) = dt n (hM T n A) := by
    intro k
    induction k with
    | zero => intro _; refine dt_ext n (fun i j _ _ => ?_); unfold hM; by_cases e : Ls T n i <;> simp [e]
    | succ k ih =>
      intro hk
      rw [← ih (by omega)]
      by_cases hl : Ls T n k
      · rw [← dt_adk (k := k) (by omega) (fun i => @ite Int (Ls T n i) (Classical.propDecidable _) (0) (- A i k)) n (Nat.le_refl n) (fun i j => @ite Int (Ls T n i) (Classical.propDecidable _) (dl1 i j) (@ite Int (Ls T n j ∧ j < k) (Classical.propDecidable _) (0) (A i j)))]
        refine dt_ext n (fun i j hi hj => ?_)
        unfold adk
        by_cases e : i = k
        · subst e; simp [hl]
        · rw [if_neg e, if_pos hi]
          by_cases e1 : Ls T n i
          · simp [e1]
          · simp only [if_neg e1, if_pos hl]
            unfold dl1
            by_cases e2 : k = j
            · subst e2; simp [hl]; grind
            · rw [if_neg e2]
              by_cases e3 : Ls T n j ∧ j < k
              · rw [if_pos e3, if_pos ⟨e3.1, by omega⟩]; simp
              · rw [if_neg e3, if_neg (fun z => e3 ⟨z.1, by omega⟩)]; simp
      · refine dt_ext n (fun i j hi hj => ?_)
        by_cases e1 : Ls T n i
        · simp [e1]
        · simp only [if_neg e1]
          by_cases e3 : Ls T n j ∧ j < k
          · rw [if_pos e3, if_pos ⟨e3.1, by omega⟩]
          · rw [if_neg e3, if_neg (fun z => e3 ⟨z.1, by
              have : j ≠ k := fun q => hl (q ▸ z.1)
              omega⟩)]
  rw [← key n (Nat.le_refl n)]
  refine dt_ext n (fun i j hi hj => ?_)
  unfold hA
  by_cases e1 : Ls T n i
  · simp [e1]
  · by_cases e2 : Ls T n j
    · simp only [if_neg e1, if_pos (Or.inr e2 : Ls T n i ∨ Ls T n j), if_pos (⟨e2, hj⟩ : Ls T n j ∧ j < n)]
      unfold dl1; rw [if_neg (fun q : i = j => e1 (by rw [q]; exact e2))]
    · simp [e1, e2]
/-- the places times the determinant solve the rows -/
theorem places_ker {n : Nat} {T : List Tm} {E : List Nat} (h : tIn n T E) {N q : Nat → Int} {D : Int} (hall : ∀ i, i < n → mv n (tA T E 0) N i = D * tB T i) (h0 : ∀ l, Ls T n l → N l = 0) {i : Nat} (hi : i < n) : sm n (fun j => hM T n (tA T E 0) i j * (N j + D * q j)) + (@ite Int (Ls T n i) (Classical.propDecidable _) (q i) (tB' T E 0 q i)) * (- D) = 0 := by
  by_cases e : Ls T n i
  · rw [if_pos e, sm_one (k := i) hi (fun j _ hn => by unfold hM; rw [if_pos e]; unfold dl1; rw [if_neg (by omega)]; simp)]
    unfold hM; rw [if_pos e, h0 i e]; unfold dl1; simp; grind
  · rw [if_neg e, tB'_eq h]
    have e1 : sm n (fun j => hM T n (tA T E 0) i j * (N j + D * q j)) = mv n (tA T E 0) (fun j => N j + D * q j) i := sm_ext (fun j _ => by unfold hM; rw [if_neg e])
    rw [e1, mv_lin, hall i hi]; grind
theorem places_ker' {n : Nat} {T : List Tm} {E : List Nat} {e : Int} (h : tIn n T E) {N q : Nat → Int} {D : Int} (hall : ∀ i, i < n → mv n (tA T E e) N i = D * tB T i) {i : Nat} (hi : i < n) : sm n (fun j => tA T E e i j * (N j + D * q j)) + tB' T E e q i * (- D) = 0 := by
  have e1 : sm n (fun j => tA T E e i j * (N j + D * q j)) = mv n (tA T E e) (fun j => N j + D * q j) i := rfl
  rw [e1, mv_lin, hall i hi, tB'_eq h]; grind
