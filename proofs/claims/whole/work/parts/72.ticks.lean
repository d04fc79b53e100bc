/-! THE REFERENCE: ticks and sets -/
def tk (s : jN) (j : Nat) : Nat := if j % 2 = 0 then s.2.2.1 (j / 2) else s.2.2.2.1 (j / 2)
def tkOk (I : Nat → Nat → Int32) (s : jN) (l : List Nat) (i : Nat) : Prop := (∀ j x, l[j]? = some x → I 178 j = nI x) ∧ l.Pairwise (· < ·) ∧ (∀ x, x ∈ l ↔ ∃ j, j < i ∧ x = tk s j) ∧ l.length ≤ i
theorem tk_le {s : jN} (ho : jOk s) {j : Nat} (hj : j < 2 * s.1) : tk s j ≤ 9999 := by
  have := ho.2 (j / 2) (by omega)
  unfold tk
  split <;> omega
theorem tk_in {s : jN} {x : Nat} : (∃ j, j < 2 * s.1 ∧ x = tk s j) ↔ ∃ i, i < s.1 ∧ (x = s.2.2.1 i ∨ x = s.2.2.2.1 i) := by
  constructor
  · rintro ⟨j, hj, rfl⟩
    refine ⟨j / 2, by omega, ?_⟩
    unfold tk
    split
    · exact Or.inl rfl
    · exact Or.inr rfl
  · rintro ⟨i, hi, h | h⟩
    · refine ⟨2 * i, by omega, ?_⟩
      unfold tk; rw [if_pos (by omega), show 2 * i / 2 = i by omega]; exact h
    · refine ⟨2 * i + 1, by omega, ?_⟩
      unfold tk; rw [if_neg (by omega), show (2 * i + 1) / 2 = i by omega]; exact h
theorem sorted_lt {l : List Nat} (h : l.Pairwise (· < ·)) {i j x y : Nat} (hij : i < j) (hi : l[i]? = some x) (hj : l[j]? = some y) : x < y := by
  obtain ⟨h1, rfl⟩ := List.getElem?_eq_some_iff.mp hi
  obtain ⟨h2, rfl⟩ := List.getElem?_eq_some_iff.mp hj
  exact List.pairwise_iff_getElem.mp h i j h1 h2 hij
def ins (l : List Nat) (a t : Nat) : List Nat := l.take a ++ t :: l.drop a
theorem ins_len {l : List Nat} {a t : Nat} (h : a ≤ l.length) : (ins l a t).length = l.length + 1 := by
  unfold ins
  rw [List.length_append, List.length_cons, List.length_take, List.length_drop]
  omega
theorem ins_lt {l : List Nat} {a t j : Nat} (ha : a ≤ l.length) (h : j < a) : (ins l a t)[j]? = l[j]? := by
  unfold ins
  rw [List.getElem?_append_left (by rw [List.length_take]; omega), List.getElem?_take, if_pos h]
theorem ins_eq {l : List Nat} {a t : Nat} (ha : a ≤ l.length) : (ins l a t)[a]? = some t := by
  unfold ins
  rw [List.getElem?_append_right (by rw [List.length_take]; omega), List.length_take, show a - min a l.length = 0 by omega]; rfl
theorem ins_gt {l : List Nat} {a t j : Nat} (ha : a ≤ l.length) (h : a < j) : (ins l a t)[j]? = l[j - 1]? := by
  unfold ins
  rw [List.getElem?_append_right (by rw [List.length_take]; omega), List.length_take]
  obtain ⟨d, hd⟩ : ∃ d, j - min a l.length = d + 1 := ⟨j - min a l.length - 1, by omega⟩
  rw [hd, List.getElem?_cons_succ, List.getElem?_drop]
  congr 1; omega
theorem ins_mem {l : List Nat} {a t x : Nat} : x ∈ ins l a t ↔ x ∈ l ∨ x = t := by
  unfold ins
  rw [List.mem_append, List.mem_cons]
  have : x ∈ l ↔ x ∈ l.take a ∨ x ∈ l.drop a := by
    rw [← List.mem_append, List.take_append_drop]
  rw [this]
  constructor
  · rintro (h | h | h)
    · exact Or.inl (Or.inl h)
    · exact Or.inr h
    · exact Or.inl (Or.inr h)
  · rintro ((h | h) | h)
    · exact Or.inl h
    · exact Or.inr (Or.inr h)
    · exact Or.inr (Or.inl h)
theorem ins_sorted {l : List Nat} {a t : Nat} (ha : a ≤ l.length) (h : l.Pairwise (· < ·)) (h1 : ∀ j x, j < a → l[j]? = some x → x < t) (h2 : ∀ j x, a ≤ j → l[j]? = some x → t < x) : (ins l a t).Pairwise (· < ·) := by
  refine List.pairwise_iff_getElem.mpr (fun i j hi hj hij => ?_)
  have e1 : (ins l a t)[i]? = some (ins l a t)[i] := List.getElem?_eq_getElem hi
  have e2 : (ins l a t)[j]? = some (ins l a t)[j] := List.getElem?_eq_getElem hj
  by_cases c1 : j < a
  · rw [ins_lt ha c1] at e2
    rw [ins_lt ha (by omega)] at e1
    exact sorted_lt h hij e1 e2
  · by_cases c2 : j = a
    · subst c2
      rw [ins_eq ha] at e2
      rw [ins_lt ha hij] at e1
      injection e2 with e2
      rw [← e2]; exact h1 i _ hij e1
    · rw [ins_gt ha (by omega)] at e2
      by_cases c3 : i < a
      · rw [ins_lt ha c3] at e1
        exact sorted_lt h (by omega) e1 e2
      · by_cases c4 : i = a
        · subst c4
          rw [ins_eq ha] at e1
          injection e1 with e1
          rw [← e1]; exact h2 (j - 1) _ (by omega) e2
        · rw [ins_gt ha (by omega)] at e1
          exact sorted_lt h (by omega) e1 e2
/-- the sets of sorted ticks -/
def rsP (s : jN) (l : List Nat) : Nat → List (Nat × Nat)
  | 0 => []
  | k + 1 => rsP s l k ++ (if 0 < jSnd s (l.getD k 0) then [(l.getD k 0, l.getD (k + 1) 0)] else [])
theorem rsP_len (s : jN) (l : List Nat) : ∀ k, (rsP s l k).length ≤ k
  | 0 => Nat.le_refl _
  | k + 1 => by
    have := rsP_len s l k
    show (rsP s l k ++ _).length ≤ _
    rw [List.length_append]
    split <;> simp <;> omega
theorem jNx_low {s : jN} {a x : Nat} (hx : a ≤ x) : ∀ n, (∃ i, i < n ∧ (x = s.2.2.1 i ∨ x = s.2.2.2.1 i)) → jNx s a n ≤ x
  | 0, h => by obtain ⟨i, hi, _⟩ := h; omega
  | n + 1, h => by
    obtain ⟨i, hi, h⟩ := h
    show (if a ≤ s.2.2.2.1 n then min (if a ≤ s.2.2.1 n then min (jNx s a n) (s.2.2.1 n) else jNx s a n) (s.2.2.2.1 n) else (if a ≤ s.2.2.1 n then min (jNx s a n) (s.2.2.1 n) else jNx s a n)) ≤ x
    by_cases e : i = n
    · subst e
      rcases h with h | h
      · rw [h] at hx ⊢
        rw [if_pos hx]
        split <;> omega
      · rw [h] at hx ⊢
        rw [if_pos hx]
        omega
    · have := jNx_low hx n ⟨i, by omega, h⟩
      split <;> split <;> omega
theorem jNx_is {s : jN} {a : Nat} : ∀ n, jNx s a n = 9999 ∨ (a ≤ jNx s a n ∧ ∃ i, i < n ∧ (jNx s a n = s.2.2.1 i ∨ jNx s a n = s.2.2.2.1 i))
  | 0 => Or.inl rfl
  | n + 1 => by
    have ih := jNx_is (s := s) (a := a) n
    have key : ∀ v : Nat, v = 9999 ∨ (a ≤ v ∧ ∃ i, i < n ∧ (v = s.2.2.1 i ∨ v = s.2.2.2.1 i)) → ∀ u : Nat, (u = s.2.2.1 n ∨ u = s.2.2.2.1 n) → a ≤ u → (min v u = 9999 ∨ (a ≤ min v u ∧ ∃ i, i < n + 1 ∧ (min v u = s.2.2.1 i ∨ min v u = s.2.2.2.1 i))) := by
      intro v hv u hu hau
      rcases Nat.le_total v u with g | g
      · rw [Nat.min_eq_left g]
        rcases hv with h | ⟨h1, i, h2, h3⟩
        · exact Or.inl h
        · exact Or.inr ⟨h1, i, by omega, h3⟩
      · rw [Nat.min_eq_right g]
        exact Or.inr ⟨hau, n, by omega, hu⟩
    have up : ∀ v : Nat, v = 9999 ∨ (a ≤ v ∧ ∃ i, i < n ∧ (v = s.2.2.1 i ∨ v = s.2.2.2.1 i)) → (v = 9999 ∨ (a ≤ v ∧ ∃ i, i < n + 1 ∧ (v = s.2.2.1 i ∨ v = s.2.2.2.1 i))) := by
      rintro v (h | ⟨h1, i, h2, h3⟩)
      · exact Or.inl h
      · exact Or.inr ⟨h1, i, by omega, h3⟩
    have key2 : ∀ v : Nat, (v = 9999 ∨ (a ≤ v ∧ ∃ i, i < n + 1 ∧ (v = s.2.2.1 i ∨ v = s.2.2.2.1 i))) → ∀ u : Nat, (u = s.2.2.1 n ∨ u = s.2.2.2.1 n) → a ≤ u → (min v u = 9999 ∨ (a ≤ min v u ∧ ∃ i, i < n + 1 ∧ (min v u = s.2.2.1 i ∨ min v u = s.2.2.2.1 i))) := by
      intro v hv u hu hau
      rcases Nat.le_total v u with g | g
      · rw [Nat.min_eq_left g]; exact hv
      · rw [Nat.min_eq_right g]; exact Or.inr ⟨hau, n, by omega, hu⟩
    show (if a ≤ s.2.2.2.1 n then min (if a ≤ s.2.2.1 n then min (jNx s a n) (s.2.2.1 n) else jNx s a n) (s.2.2.2.1 n) else (if a ≤ s.2.2.1 n then min (jNx s a n) (s.2.2.1 n) else jNx s a n)) = 9999 ∨ (a ≤ (if a ≤ s.2.2.2.1 n then min (if a ≤ s.2.2.1 n then min (jNx s a n) (s.2.2.1 n) else jNx s a n) (s.2.2.2.1 n) else (if a ≤ s.2.2.1 n then min (jNx s a n) (s.2.2.1 n) else jNx s a n)) ∧ ∃ i, i < n + 1 ∧ ((if a ≤ s.2.2.2.1 n then min (if a ≤ s.2.2.1 n then min (jNx s a n) (s.2.2.1 n) else jNx s a n) (s.2.2.2.1 n) else (if a ≤ s.2.2.1 n then min (jNx s a n) (s.2.2.1 n) else jNx s a n)) = s.2.2.1 i ∨ (if a ≤ s.2.2.2.1 n then min (if a ≤ s.2.2.1 n then min (jNx s a n) (s.2.2.1 n) else jNx s a n) (s.2.2.2.1 n) else (if a ≤ s.2.2.1 n then min (jNx s a n) (s.2.2.1 n) else jNx s a n)) = s.2.2.2.1 i))
    by_cases c1 : a ≤ s.2.2.1 n <;> by_cases c2 : a ≤ s.2.2.2.1 n
    · simp only [if_pos c1, if_pos c2]; exact key2 _ (key _ ih _ (Or.inl rfl) c1) _ (Or.inr rfl) c2
    · simp only [if_pos c1, if_neg c2]; exact key _ ih _ (Or.inl rfl) c1
    · simp only [if_neg c1, if_pos c2]; exact key _ ih _ (Or.inr rfl) c2
    · simp only [if_neg c1, if_neg c2]; exact up _ ih
/-- the next of sorted ticks -/
theorem jNext_at {s : jN} (ho : jOk s) {l : List Nat} (hs : l.Pairwise (· < ·)) (hm : ∀ x, x ∈ l ↔ ∃ i, i < s.1 ∧ (x = s.2.2.1 i ∨ x = s.2.2.2.1 i)) {a k : Nat} (hlo : ∀ j x, l[j]? = some x → (a ≤ x ↔ k ≤ j)) : jNext s a = l.getD k 9999 := by
  have hle : ∀ x, x ∈ l → x ≤ 9999 := fun x hx => by
    obtain ⟨i, hi, h⟩ := (hm x).mp hx
    have := ho.2 i hi
    omega
  unfold jNext
  have hno : ∀ x, (∃ i, i < s.1 ∧ (x = s.2.2.1 i ∨ x = s.2.2.2.1 i)) → ∃ j, l[j]? = some x := fun x hx => List.getElem?_of_mem ((hm x).mpr hx)
  rw [List.getD_eq_getElem?_getD]
  rcases Nat.lt_or_ge k l.length with c | c
  · have e : l[k]? = some l[k] := List.getElem?_eq_getElem c
    rw [e]
    show jNx s a s.1 = l[k]
    have hk := (hlo k _ e).mpr (Nat.le_refl _)
    have h1 := jNx_low hk s.1 ((hm _).mp (List.mem_of_getElem? e))
    rcases jNx_is (s := s) (a := a) s.1 with h | ⟨h2, h3⟩
    · have := hle _ (List.mem_of_getElem? e); omega
    · obtain ⟨j, hj⟩ := hno _ h3
      have hkj := (hlo j _ hj).mp h2
      by_cases g : j = k
      · rw [g, e] at hj; injection hj with hj; exact hj.symm
      · have := sorted_lt hs (show k < j by omega) e hj; omega
  · rw [List.getElem?_eq_none c]
    show jNx s a s.1 = 9999
    rcases jNx_is (s := s) (a := a) s.1 with h | ⟨h2, h3⟩
    · exact h
    · obtain ⟨j, hj⟩ := hno _ h3
      have hkj := (hlo j _ hj).mp h2
      have := (List.getElem?_eq_some_iff.mp hj).1
      omega
theorem rsP_eq {s : jN} (ho : jOk s) {l : List Nat} (hs : l.Pairwise (· < ·)) (hm : ∀ x, x ∈ l ↔ ∃ i, i < s.1 ∧ (x = s.2.2.1 i ∨ x = s.2.2.2.1 i)) (hl : l.length ≤ 32) : rsP s l (l.length - 1) = jS s := by
  have hle : ∀ x, x ∈ l → x ≤ 9999 := fun x hx => by
    obtain ⟨i, hi, h⟩ := (hm x).mp hx
    have := ho.2 i hi
    omega
  have hnx : ∀ k x, l[k]? = some x → jNext s (x + 1) = l.getD (k + 1) 9999 := fun k x hx => jNext_at ho hs hm (fun j y hy => by
    constructor
    · intro g
      refine Nat.lt_of_not_le (fun h => ?_)
      by_cases e : j = k
      · rw [e, hx] at hy; injection hy with hy; omega
      · have := sorted_lt hs (show j < k by omega) hy hx; omega
    · intro g
      have := sorted_lt hs (show k < j by omega) hx hy; omega)
  have h0 : jNext s 0 = l.getD 0 9999 := jNext_at ho hs hm (fun j x _ => ⟨fun _ => Nat.zero_le _, fun _ => Nat.zero_le _⟩)
  -- the last tick is silent
  have hlast : ∀ x, l[l.length - 1]? = some x → jSnd s x = 0 := fun x hx => by
    refine Nat.eq_zero_of_not_pos (fun hp => ?_)
    have hb := jBase_in hp
    unfold jOn at hb
    simp only [Bool.and_eq_true, decide_eq_true_eq] at hb
    obtain ⟨j, hj⟩ := List.getElem?_of_mem ((hm (s.2.2.2.1 (jBase s x))).mpr ⟨_, hb.2.1, Or.inr rfl⟩)
    have hjl := (List.getElem?_eq_some_iff.mp hj).1
    by_cases e : j = l.length - 1
    · rw [e, hx] at hj; injection hj with hj; omega
    · have := sorted_lt hs (show j < l.length - 1 by omega) hj hx; omega
  have gen : ∀ d k f, k + d + 1 = l.length → d ≤ f → ∀ x, l[k]? = some x → rsP s l k ++ jSets s f x = rsP s l (l.length - 1) := by
    intro d
    induction d with
    | zero =>
      intro k f hk hf x hx
      have e : l.length - 1 = k := by omega
      rw [e] at hlast ⊢
      have hz := hlast x hx
      have hxl := hle x (List.mem_of_getElem? hx)
      have : jSets s f x = [] := by
        cases f with
        | zero => exact jSets_end (Or.inl rfl)
        | succ f =>
          by_cases c : x < 9999
          · rw [jSets_no c hz, hnx k x hx, List.getD_eq_getElem?_getD, List.getElem?_eq_none (by omega)]
            exact jSets_end (Or.inr (Nat.le_refl _))
          · exact jSets_end (Or.inr (by omega))
      rw [this, List.append_nil]
    | succ d ih =>
      intro k f hk hf x hx
      obtain ⟨f, rfl⟩ : ∃ g, f = g + 1 := ⟨f - 1, by omega⟩
      obtain ⟨y, hy⟩ : ∃ y, l[k + 1]? = some y := ⟨_, List.getElem?_eq_getElem (by omega)⟩
      have hxy := sorted_lt hs (show k < k + 1 by omega) hx hy
      have hyl := hle y (List.mem_of_getElem? hy)
      have hgk : l.getD k 0 = x := by rw [List.getD_eq_getElem?_getD, hx]; rfl
      have hgk1 : l.getD (k + 1) 0 = y := by rw [List.getD_eq_getElem?_getD, hy]; rfl
      have hn1 : jNext s (x + 1) = y := by rw [hnx k x hx, List.getD_eq_getElem?_getD, hy]; rfl
      rw [← ih (k + 1) f (by omega) (by omega) y hy]
      show _ = rsP s l k ++ (if 0 < jSnd s (l.getD k 0) then [(l.getD k 0, l.getD (k + 1) 0)] else []) ++ jSets s f y
      rw [hgk, hgk1]
      by_cases c : 0 < jSnd s x
      · rw [if_pos c, jSets_yes (by omega) c, hn1, List.append_assoc]; rfl
      · rw [if_neg c, jSets_no (by omega) (by omega), hn1, List.append_nil]
  unfold jS
  rw [h0]
  cases hll : l.length with
  | zero =>
    rw [List.getD_eq_getElem?_getD, List.getElem?_eq_none (by omega)]
    exact (jSets_end (Or.inr (Nat.le_refl _))).symm
  | succ n =>
    obtain ⟨x, hx⟩ : ∃ x, l[0]? = some x := ⟨_, List.getElem?_eq_getElem (by omega)⟩
    have hg := gen n 0 31 (by omega) (by omega) x hx
    rw [hll] at hg
    rw [List.getD_eq_getElem?_getD, hx]
    exact hg.symm
