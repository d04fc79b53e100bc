/-! THE LAST ONES ARE FOUND -/
theorem dlp_le {τ : Tm} {x y : Nat} (h : x ≠ y) : dl τ x * dl τ y ≤ 0 := by
  have hh : ∀ a b c d : Int, (a = 0 ∨ a = 1) → (b = 0 ∨ b = 1) → (c = 0 ∨ c = 1) → (d = 0 ∨ d = 1) → (a = 1 → c = 0) → (b = 1 → d = 0) → (a - b) * (c - d) ≤ 0 := by
    intro a b c d h1 h2 h3 h4 h5 h6
    rcases h1 with rfl | rfl <;> rcases h2 with rfl | rfl <;> rcases h3 with rfl | rfl <;> rcases h4 with rfl | rfl <;> simp at h5 h6 <;> simp
  have h01 : ∀ a b, dl1 a b = 0 ∨ dl1 a b = 1 := fun a b => by unfold dl1; split; exact Or.inr rfl; exact Or.inl rfl
  have hx : ∀ a, dl1 a x = 1 → dl1 a y = 0 := fun a g => by
    unfold dl1 at g ⊢
    by_cases e : a = x
    · rw [if_neg (by omega)]
    · rw [if_neg e] at g; cases g
  exact hh _ _ _ _ (h01 _ _) (h01 _ _) (h01 _ _) (h01 _ _) (hx τ.1) (hx τ.2.1)
theorem edge_Cn {n : Nat} {T : List Tm} {E : List Nat} (h : tIn n T E) {x y : Nat} (hxy : x ≠ y) (hA : tA T E 0 x y ≠ 0) : Cn T x y := by
  refine Classical.byContradiction (fun hc => hA ?_)
  unfold tA
  rw [Int.zero_mul, Int.add_zero]
  refine Eq.trans (ls_ext (g := fun _ => 0) (fun τ ht => ?_)) (ls_zero T)
  rcases Int.lt_or_eq_of_le (h.1 τ ht).2.2 with g | g
  · have hcc : Cn T τ.1 τ.2.1 := fun f hf => hf τ ht g
    have : dl τ x * dl τ y = 0 := by
      unfold dl dl1
      by_cases a : τ.1 = x <;> by_cases b : τ.2.1 = x <;> by_cases c : τ.1 = y <;> by_cases d : τ.2.1 = y <;> simp only [if_pos, if_neg, a, b, c, d, ite_true, ite_false] <;> try omega
      · exact absurd (by rw [a, d] at hcc; exact hcc) hc
      · exact absurd (by rw [c, b] at hcc; exact Cn_symm hcc) hc
    rw [this, Int.mul_zero]
  · rw [← g]; simp
theorem edge_of {n : Nat} {T : List Tm} {E : List Nat} (h : tIn n T E) {τ : Tm} (ht : τ ∈ T) (hw : 0 < τ.2.2.1) (hne : τ.1 ≠ τ.2.1) : tA T E 0 τ.1 τ.2.1 ≠ 0 := by
  intro h0
  unfold tA at h0
  rw [Int.zero_mul, Int.add_zero] at h0
  have h1 := ls_eq0 (f := fun σ => - (σ.2.2.1 * (dl σ τ.1 * dl σ τ.2.1))) (l := T) (fun σ hs => by
    have := Int.mul_le_mul_of_nonneg_left (dlp_le (τ := σ) hne) (h.1 σ hs).2.2
    rw [Int.mul_zero] at this; omega) (by
    have e : ls (fun σ => - (σ.2.2.1 * (dl σ τ.1 * dl σ τ.2.1))) T = (-1) * ls (fun σ => σ.2.2.1 * (dl σ τ.1 * dl σ τ.2.1)) T := by
      rw [← ls_mul]; exact ls_ext (fun σ _ => by omega)
    rw [e, h0]; rfl) τ ht
  have e1 : dl τ τ.1 * dl τ τ.2.1 = -1 := by
    unfold dl dl1
    rw [if_pos rfl, if_neg (fun q => hne q.symm), if_neg hne, if_pos rfl]; rfl
  have h2 : - (τ.2.2.1 * (dl τ τ.1 * dl τ τ.2.1)) = 0 := h1
  rw [e1] at h2
  omega
theorem jPlF_ge {A : Nat → Nat → Int} {l : Nat → Nat} {x : Nat} : ∀ n, l x ≤ jPlF A l x n
  | 0 => Nat.le_refl _
  | n + 1 => by
    have := jPlF_ge (A := A) (l := l) (x := x) n
    show l x ≤ if A x n ≠ 0 then max (jPlF A l x n) (l n) else jPlF A l x n
    split
    · exact Nat.le_trans this (Nat.le_max_left _ _)
    · exact this
theorem jPlF_edge {A : Nat → Nat → Int} {l : Nat → Nat} {x y : Nat} (hA : A x y ≠ 0) : ∀ n, y < n → l y ≤ jPlF A l x n
  | 0, h => absurd h (by omega)
  | n + 1, h => by
    show l y ≤ if A x n ≠ 0 then max (jPlF A l x n) (l n) else jPlF A l x n
    by_cases e : y = n
    · subst e; rw [if_pos hA]; exact Nat.le_max_right _ _
    · have := jPlF_edge (l := l) hA n (by omega)
      split
      · exact Nat.le_trans this (Nat.le_max_left _ _)
      · exact this
theorem jPlF_Cn {n : Nat} {T : List Tm} {E : List Nat} (h : tIn n T E) {l : Nat → Nat} (hl : ∀ x, x < n → Cn T x (l x) ∧ l x < n) {x : Nat} (hx : x < n) : ∀ y, y ≤ n → Cn T x (jPlF (tA T E 0) l x y) ∧ jPlF (tA T E 0) l x y < n
  | 0, _ => hl x hx
  | y + 1, hy => by
    have ih := jPlF_Cn h hl hx y (by omega)
    show Cn T x (if tA T E 0 x y ≠ 0 then _ else _) ∧ (if tA T E 0 x y ≠ 0 then _ else _) < n
    by_cases e : tA T E 0 x y ≠ 0
    · rw [if_pos e]
      have hc : Cn T x y := by
        by_cases g : x = y
        · rw [g]; exact Cn_refl T y
        · exact edge_Cn h g e
      have h2 := hl y (by omega)
      rcases Nat.le_total (jPlF (tA T E 0) l x y) (l y) with g | g
      · rw [Nat.max_eq_right g]; exact ⟨Cn_trans hc h2.1, h2.2⟩
      · rw [Nat.max_eq_left g]; exact ih
    · rw [if_neg e]; exact ih
theorem va_same {f : Nat → Nat} {i v : Nat} : va_up f i v i = v := by simp [va_up]
theorem va_diff {f : Nat → Nat} {i v k : Nat} (h : k ≠ i) : va_up f i v k = f k := by simp [va_up, h]
theorem jPs_ge {A : Nat → Nat → Int} {n : Nat} {l : Nat → Nat} : ∀ i x, l x ≤ (jPs A n l i).1 x
  | 0, _ => Nat.le_refl _
  | i + 1, x => by
    have ih := jPs_ge (A := A) (n := n) (l := l) i x
    show l x ≤ va_up (jPs A n l i).1 i _ x
    by_cases e : x = i
    · subst e; rw [va_same]; exact Nat.le_trans ih (jPlF_ge n)
    · rw [va_diff e]; exact ih
theorem jPs_Cn {n : Nat} {T : List Tm} {E : List Nat} (h : tIn n T E) {l : Nat → Nat} (hl : ∀ x, x < n → Cn T x (l x) ∧ l x < n) : ∀ i, i ≤ n → ∀ x, x < n → Cn T x ((jPs (tA T E 0) n l i).1 x) ∧ (jPs (tA T E 0) n l i).1 x < n
  | 0, _, x, hx => hl x hx
  | i + 1, hi, x, hx => by
    have ih := jPs_Cn h hl i (by omega)
    show Cn T x (va_up (jPs (tA T E 0) n l i).1 i _ x) ∧ va_up (jPs (tA T E 0) n l i).1 i _ x < n
    by_cases e : x = i
    · subst e; rw [va_same]; exact jPlF_Cn h ih hx n (Nat.le_refl n)
    · rw [va_diff e]; exact ih x hx
theorem jPs_edge {A : Nat → Nat → Int} {n : Nat} {l : Nat → Nat} {v u : Nat} (hA : A v u ≠ 0) (hu : u < n) : ∀ i, v < i → l u ≤ (jPs A n l i).1 v
  | 0, h => absurd h (by omega)
  | i + 1, h => by
    show l u ≤ va_up (jPs A n l i).1 i _ v
    by_cases e : v = i
    · subst e; rw [va_same]
      exact Nat.le_trans (jPs_ge v u) (jPlF_edge hA n hu)
    · rw [va_diff e]; exact jPs_edge hA hu i (by omega)
theorem jPs_false {A : Nat → Nat → Int} {n : Nat} {l : Nat → Nat} : ∀ i, (jPs A n l i).2 = false → (jPs A n l i).1 = l
  | 0, _ => rfl
  | i + 1, h => by
    have h' : ((jPs A n l i).2 || decide (jPlF A (jPs A n l i).1 i n ≠ (jPs A n l i).1 i)) = false := h
    rw [Bool.or_eq_false_iff] at h'
    have ih := jPs_false i h'.1
    show va_up (jPs A n l i).1 i _ = l
    have e := h'.2
    simp only [decide_eq_false_iff_not, Decidable.not_not] at e
    rw [e, ih]
    funext k
    by_cases g : k = i
    · rw [g, va_same]
    · rw [va_diff g]
theorem jPass_step {A : Nat → Nat → Int} {n : Nat} : ∀ t, (jPass A n (t + 1)).1 = (jPs A n (jPass A n t).1 n).1
  | 0 => rfl
  | t + 1 => by
    show (if (jPass A n (t + 1)).2 then _ else _ : (Nat → Nat) × Bool).1 = _
    by_cases e : (jPass A n (t + 1)).2 = true
    · rw [if_pos e]
    · rw [if_neg e]
      have ih := jPass_step (A := A) (n := n) t
      have ef : (jPass A n (t + 1)).2 = false := by simpa using e
      have : (jPass A n (t + 1)).1 = (jPass A n t).1 := by
        have es : jPass A n (t + 1) = if (jPass A n t).2 then jPs A n (jPass A n t).1 n else jPass A n t := rfl
        by_cases g : (jPass A n t).2 = true
        · rw [if_pos g] at es
          rw [es] at ef ⊢
          exact jPs_false n ef
        · rw [if_neg g] at es
          rw [es]
      rw [← this] at ih
      exact ih
theorem jCnt_grow {f g : Nat → Bool} : ∀ n, (∀ i, i < n → f i = true → g i = true) → jCnt f n ≤ jCnt g n
  | 0, _ => Nat.le_refl _
  | n + 1, h => by
    have ih := jCnt_grow n (fun i hi => h i (by omega))
    have hn := h n (by omega)
    show (if f n then _ else _) ≤ (if g n then _ else _)
    by_cases e : f n = true
    · rw [if_pos e, if_pos (hn e)]; omega
    · rw [if_neg e]; split <;> omega
theorem jCnt_grow1 {f g : Nat → Bool} {v : Nat} : ∀ n, v < n → (∀ i, i < n → f i = true → g i = true) → f v = false → g v = true → jCnt f n + 1 ≤ jCnt g n
  | 0, h, _, _, _ => absurd h (by omega)
  | n + 1, hv, h, h1, h2 => by
    have hn := h n (by omega)
    show (if f n then _ else _) + 1 ≤ (if g n then _ else _)
    by_cases e : v = n
    · subst e
      have := jCnt_grow v (fun i hi => h i (by omega))
      rw [if_neg (by rw [h1]; decide), if_pos h2]; omega
    · have ih := jCnt_grow1 n (by omega) (fun i hi => h i (by omega)) h1 h2
      by_cases e : f n = true
      · rw [if_pos e, if_pos (hn e)]; omega
      · rw [if_neg e]; split <;> omega
theorem jCnt_all {f : Nat → Bool} : ∀ n, n ≤ jCnt f n → ∀ i, i < n → f i = true
  | 0, _, i, hi => absurd hi (by omega)
  | n + 1, h, i, hi => by
    have hle := jCnt_le f n
    have h' : n + 1 ≤ (if f n then jCnt f n + 1 else jCnt f n) := h
    by_cases e : f n = true
    · rw [if_pos e] at h'
      by_cases g : i = n
      · rw [g]; exact e
      · exact jCnt_all n (by omega) i (by omega)
    · rw [if_neg e] at h'; omega
/-- the invariant of the passes -/
theorem pass_inv {n : Nat} {T : List Tm} {E : List Nat} (h : tIn n T E) : ∀ t, (∀ x, x < n → Cn T x ((jPass (tA T E 0) n t).1 x) ∧ (jPass (tA T E 0) n t).1 x < n) ∧ ∀ x, x ≤ (jPass (tA T E 0) n t).1 x
  | 0 => ⟨fun x hx => ⟨Cn_refl T x, hx⟩, fun x => Nat.le_refl x⟩
  | t + 1 => by
    have ih := pass_inv h t
    rw [jPass_step]
    exact ⟨jPs_Cn h ih.1 n (Nat.le_refl n), fun x => Nat.le_trans (ih.2 x) (jPs_ge n x)⟩
theorem pass_top {n : Nat} {T : List Tm} {E : List Nat} (h : tIn n T E) {m : Nat} (hm : Ls T n m) {t x : Nat} (hx : x < n) (hc : Cn T x m) : (jPass (tA T E 0) n t).1 x ≤ m := by
  have := (pass_inv h t).1 x hx
  refine Nat.le_of_not_lt (fun g => hm.2 _ g this.2 (Cn_trans (Cn_symm hc) this.1))
theorem pass_cnt {n : Nat} {T : List Tm} {E : List Nat} (h : tIn n T E) {m : Nat} (hm : Ls T n m) : ∀ t, (∀ x, x < n → Cn T x m → (jPass (tA T E 0) n t).1 x = m) ∨ t + 1 ≤ jCnt (fun x => decide ((jPass (tA T E 0) n t).1 x = m)) n
  | 0 => by
    refine Or.inr ?_
    have : jCnt (fun _ => false) n + 1 ≤ jCnt (fun x => decide ((jPass (tA T E 0) n 0).1 x = m)) n := jCnt_grow1 (v := m) n hm.1 (fun i _ q => by cases q) rfl (by show decide (m = m) = true; simp)
    omega
  | t + 1 => by
    have mono : ∀ x, (jPass (tA T E 0) n t).1 x ≤ (jPass (tA T E 0) n (t + 1)).1 x := fun x => by rw [jPass_step]; exact jPs_ge n x
    have stay : ∀ x, x < n → (jPass (tA T E 0) n t).1 x = m → (jPass (tA T E 0) n (t + 1)).1 x = m := fun x hx e => by
      have hc : Cn T x m := by rw [← e]; exact ((pass_inv h t).1 x hx).1
      have h1 := pass_top h hm (t := t + 1) hx hc
      have h2 := mono x
      omega
    rcases pass_cnt h hm t with g | g
    · exact Or.inl (fun x hx hc => stay x hx (g x hx hc))
    · by_cases hcl : ∀ x, x < n → Cn T x m → (jPass (tA T E 0) n t).1 x = m
      · exact Or.inl (fun x hx hc => stay x hx (hcl x hx hc))
      · refine Or.inr ?_
        have hmm : (jPass (tA T E 0) n t).1 m = m := by
          have := pass_top h hm (t := t) hm.1 (Cn_refl T m)
          have := (pass_inv h t).2 m
          omega
        -- an edge out
        have hex : ∃ u v, u < n ∧ v < n ∧ tA T E 0 v u ≠ 0 ∧ (jPass (tA T E 0) n t).1 u = m ∧ (jPass (tA T E 0) n t).1 v ≠ m := by
          refine Classical.byContradiction (fun hno => hcl (fun x hx hc => ?_))
          have := hc (fun i => if (jPass (tA T E 0) n t).1 i = m then 1 else 0) (fun τ ht hw => by
            by_cases e : τ.1 = τ.2.1
            · rw [e]
            · have e1 := edge_of h ht hw e
              have e2 : tA T E 0 τ.2.1 τ.1 ≠ 0 := by rw [tA_sym]; exact e1
              have b := h.1 τ ht
              show (if (jPass (tA T E 0) n t).1 τ.1 = m then (1 : Int) else 0) = if (jPass (tA T E 0) n t).1 τ.2.1 = m then 1 else 0
              by_cases p : (jPass (tA T E 0) n t).1 τ.1 = m <;> by_cases q : (jPass (tA T E 0) n t).1 τ.2.1 = m
              · rw [if_pos p, if_pos q]
              · exact absurd ⟨τ.1, τ.2.1, b.1, b.2.1, e2, p, q⟩ hno
              · exact absurd ⟨τ.2.1, τ.1, b.2.1, b.1, e1, q, p⟩ hno
              · rw [if_neg p, if_neg q])
          simp only [if_pos hmm] at this
          refine Classical.byContradiction (fun q => ?_)
          rw [if_neg q] at this
          cases this
        obtain ⟨u, v, hu, hv, hA, h1, h2⟩ := hex
        have hcv : Cn T v m := by
          have c1 : Cn T u m := by rw [← h1]; exact ((pass_inv h t).1 u hu).1
          by_cases e : v = u
          · rw [e]; exact c1
          · exact Cn_trans (edge_Cn h e hA) c1
        have hvn : (jPass (tA T E 0) n (t + 1)).1 v = m := by
          have a1 := pass_top h hm (t := t + 1) hv hcv
          have a2 : (jPass (tA T E 0) n t).1 u ≤ (jPass (tA T E 0) n (t + 1)).1 v := by rw [jPass_step]; exact jPs_edge hA hu n hv
          omega
        have := jCnt_grow1 (f := fun x => decide ((jPass (tA T E 0) n t).1 x = m)) (g := fun x => decide ((jPass (tA T E 0) n (t + 1)).1 x = m)) (v := v) n hv (fun i hi q => by
          simp only [decide_eq_true_eq] at q ⊢
          exact stay i hi q) (by simp [h2]) (by simp [hvn])
        omega
theorem jLa_closed {n : Nat} {T : List Tm} {E : List Nat} (h : tIn n T E) {m x : Nat} (hm : Ls T n m) (hx : x < n) (hc : Cn T x m) : jLa (tA T E 0) n x = m := by
  unfold jLa
  rcases pass_cnt h hm n with g | g
  · exact g x hx hc
  · have := jCnt_le (fun x => decide ((jPass (tA T E 0) n n).1 x = m)) n
    omega
theorem jLa_Ls {n : Nat} {T : List Tm} {E : List Nat} (h : tIn n T E) {x : Nat} (hx : x < n) : jLa (tA T E 0) n x = x ↔ Ls T n x := by
  constructor
  · intro e
    obtain ⟨m, hm, hc⟩ := Ls_ex T n (n - x) x hx (Nat.le_refl _)
    have := jLa_closed h hm hx hc
    rw [e] at this
    rw [this]; exact hm
  · intro hl; exact jLa_closed h hl hx (Cn_refl T x)
/-! THE LABELS -/
def hRel (τ : Tm) (f : Nat → Nat) : Nat → Nat := if 0 < τ.2.2.1 then fun k => if f k = f τ.1 then f τ.2.1 else f k else f
def hng (T : List Tm) : Nat → Nat := T.foldl (fun f τ => hRel τ f) (fun k => k)
def hOk (T : List Tm) (f : Nat → Nat) : Prop := (∀ τ, τ ∈ T → 0 < τ.2.2.1 → f τ.1 = f τ.2.1) ∧ ∀ i j, f i = f j → Cn T i j
theorem Cn_mono {T T' : List Tm} (h : ∀ τ, τ ∈ T → τ ∈ T') {i j : Nat} (hc : Cn T i j) : Cn T' i j := fun f hf => hc f (fun τ ht hw => hf τ (h τ ht) hw)
theorem hOk_step {T : List Tm} {f : Nat → Nat} (h : hOk T f) (τ : Tm) : hOk (T ++ [τ]) (hRel τ f) := by
  have hm : ∀ σ, σ ∈ T → σ ∈ T ++ [τ] := fun σ hs => List.mem_append_left _ hs
  unfold hRel
  by_cases hw : 0 < τ.2.2.1
  · rw [if_pos hw]
    have hcc : Cn (T ++ [τ]) τ.1 τ.2.1 := fun g hg => hg τ (List.mem_append_right _ (List.mem_singleton_self τ)) hw
    refine ⟨fun σ hs hws => ?_, fun i j e => ?_⟩
    · show (if f σ.1 = f τ.1 then f τ.2.1 else f σ.1) = if f σ.2.1 = f τ.1 then f τ.2.1 else f σ.2.1
      rcases List.mem_append.mp hs with g | g
      · rw [h.1 σ g hws]
      · rw [List.mem_singleton.mp g, if_pos rfl]
        by_cases q : f τ.2.1 = f τ.1
        · rw [if_pos q]
        · rw [if_neg q]
    · have e' : (if f i = f τ.1 then f τ.2.1 else f i) = if f j = f τ.1 then f τ.2.1 else f j := e
      have up : ∀ a b, f a = f b → Cn (T ++ [τ]) a b := fun a b q => Cn_mono hm (h.2 a b q)
      by_cases p : f i = f τ.1 <;> by_cases q : f j = f τ.1
      · exact Cn_trans (up i τ.1 p) (Cn_symm (up j τ.1 q))
      · rw [if_pos p, if_neg q] at e'
        exact Cn_trans (up i τ.1 p) (Cn_trans hcc (up τ.2.1 j e'))
      · rw [if_neg p, if_pos q] at e'
        exact Cn_trans (up i τ.2.1 e') (Cn_trans (Cn_symm hcc) (Cn_symm (up j τ.1 q)))
      · rw [if_neg p, if_neg q] at e'; exact up i j e'
  · rw [if_neg hw]
    refine ⟨fun σ hs hws => ?_, fun i j e => Cn_mono hm (h.2 i j e)⟩
    rcases List.mem_append.mp hs with g | g
    · exact h.1 σ g hws
    · rw [List.mem_singleton.mp g] at hws; exact absurd hws hw
theorem hng_ok : ∀ (T U : List Tm) (f : Nat → Nat), hOk U f → hOk (U ++ T) (T.foldl (fun f τ => hRel τ f) f)
  | [], U, f, h => by rw [List.append_nil]; exact h
  | τ :: T, U, f, h => by
    have := hng_ok T (U ++ [τ]) (hRel τ f) (hOk_step h τ)
    rw [List.append_assoc] at this
    exact this
theorem hng_Cn (T : List Tm) (i j : Nat) : hng T i = hng T j ↔ Cn T i j := by
  have h : hOk T (hng T) := by
    have h0 : hOk [] (fun k => k) := by
      refine ⟨fun τ ht => ?_, fun i j e => ?_⟩
      · cases ht
      · have e' : i = j := e
        rw [e']; exact Cn_refl _ _
    have := hng_ok T [] (fun k => k) h0
    simpa [hng] using this
  refine ⟨h.2 i j, fun hc => ?_⟩
  have := hc (fun k => ((hng T k : Nat) : Int)) (fun τ ht hw => by rw [h.1 τ ht hw])
  have e : ((hng T i : Nat) : Int) = (hng T j : Nat) := this
  omega
