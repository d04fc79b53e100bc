/-! THE SETS -/
/-- the notes that sound at t among the first n, by numbers -/
def jML (s : jN) (t : Nat) : Nat → List Nat
  | 0 => []
  | n + 1 => if jOn s n t then jML s t n ++ [n] else jML s t n
/-- the base among them -/
def jBs (s : jN) (t : Nat) : Nat → Option Nat
  | 0 => none
  | n + 1 => if jOn s n t then (match jBs s t n with | none => some n | some b => if s.2.1 n < s.2.1 b then some n else some b) else jBs s t n
def jBase (s : jN) (t : Nat) : Nat := (jBs s t s.1).getD 0
def jMem (s : jN) (t : Nat) : List Nat := jML s t s.1
theorem jML_len (s : jN) (t : Nat) : ∀ n, (jML s t n).length = jCnt (fun i => jOn s i t) n
  | 0 => rfl
  | n + 1 => by
    unfold jML jCnt
    by_cases h : jOn s n t = true
    · rw [if_pos h, if_pos h, List.length_append, jML_len s t n]; rfl
    · rw [if_neg h, if_neg h, jML_len s t n]
theorem jML_t {s : jN} {t n : Nat} (h : jOn s n t = true) : jML s t (n + 1) = jML s t n ++ [n] := by show (if jOn s n t then _ else _) = _; rw [h]; rfl
theorem jML_f {s : jN} {t n : Nat} (h : jOn s n t = false) : jML s t (n + 1) = jML s t n := by show (if jOn s n t then _ else _) = _; rw [h]; rfl
theorem jBs_f {s : jN} {t n : Nat} (h : jOn s n t = false) : jBs s t (n + 1) = jBs s t n := by show (if jOn s n t then _ else _) = _; rw [h]; rfl
theorem jBs_t0 {s : jN} {t n : Nat} (h : jOn s n t = true) (hb : jBs s t n = none) : jBs s t (n + 1) = some n := by show (if jOn s n t then _ else _) = _; rw [h, hb]; rfl
theorem jBs_t1 {s : jN} {t n b : Nat} (h : jOn s n t = true) (hb : jBs s t n = some b) (hk : s.2.1 n < s.2.1 b) : jBs s t (n + 1) = some n := by show (if jOn s n t then _ else _) = _; rw [h, hb]; exact if_pos hk
theorem jBs_t2 {s : jN} {t n b : Nat} (h : jOn s n t = true) (hb : jBs s t n = some b) (hk : s.2.1 b ≤ s.2.1 n) : jBs s t (n + 1) = some b := by show (if jOn s n t then _ else _) = _; rw [h, hb]; exact if_neg (Nat.not_lt.mpr hk)
theorem jML_mem {s : jN} {t m : Nat} : ∀ {n : Nat}, m ∈ jML s t n ↔ m < n ∧ jOn s m t = true
  | 0 => by simp [jML]
  | n + 1 => by
    by_cases h : jOn s n t = true
    · rw [jML_t h, List.mem_append, jML_mem (n := n), List.mem_singleton]
      constructor
      · rintro (⟨a, b⟩ | rfl)
        · exact ⟨by omega, b⟩
        · exact ⟨by omega, h⟩
      · rintro ⟨a, b⟩
        rcases Nat.lt_or_ge m n with c | c
        · exact Or.inl ⟨c, b⟩
        · exact Or.inr (by omega)
    · have h' : jOn s n t = false := by cases hh : jOn s n t <;> simp_all
      rw [jML_f h', jML_mem (n := n)]
      constructor
      · rintro ⟨a, b⟩; exact ⟨by omega, b⟩
      · rintro ⟨a, b⟩
        refine ⟨?_, b⟩
        rcases Nat.lt_or_ge m n with c | c
        · exact c
        · have : m = n := by omega
          subst this
          rw [h'] at b; cases b
theorem jBs_lt {s : jN} {t b : Nat} : ∀ {n : Nat}, jBs s t n = some b → b < n ∧ jOn s b t = true
  | 0, h => by cases h
  | n + 1, h => by
    by_cases ho : jOn s n t = true
    · cases hb : jBs s t n with
      | none =>
        rw [jBs_t0 ho hb] at h
        cases h
        exact ⟨by omega, ho⟩
      | some c =>
        obtain ⟨h1, h2⟩ := jBs_lt hb
        rcases Nat.lt_or_ge (s.2.1 n) (s.2.1 c) with d | d
        · rw [jBs_t1 ho hb d] at h
          cases h
          exact ⟨by omega, ho⟩
        · rw [jBs_t2 ho hb d] at h
          cases h
          exact ⟨by omega, h2⟩
    · have h' : jOn s n t = false := by cases hh : jOn s n t <;> simp_all
      rw [jBs_f h'] at h
      obtain ⟨h1, h2⟩ := jBs_lt h
      exact ⟨by omega, h2⟩
/-- six at most sound at a tick -/
def jSix (s : jN) : Prop := ∀ t, jSnd s t ≤ 6
theorem jCnt_mono (f : Nat → Bool) : ∀ {a b : Nat}, a ≤ b → jCnt f a ≤ jCnt f b
  | a, 0, h => by rw [show a = 0 by omega]; exact Nat.le_refl _
  | a, b + 1, h => by
    rcases Nat.lt_or_ge a (b + 1) with c | c
    · have := jCnt_mono f (show a ≤ b by omega)
      have e : jCnt f (b + 1) = if f b then jCnt f b + 1 else jCnt f b := rfl
      rw [e]
      split <;> omega
    · rw [show a = b + 1 by omega]; exact Nat.le_refl _
/-- where six sound already, the notes behind don't -/
theorem jSix_off {s : jN} {t i : Nat} (h6 : jSix s) (hc : jCnt (fun i => jOn s i t) i = 6) : ∀ j, i ≤ j → j < s.1 → jOn s j t = false := by
  intro j hij hj
  cases ho : jOn s j t with
  | false => rfl
  | true =>
    have h1 := jCnt_t (f := fun i => jOn s i t) (n := j) ho
    have h2 := jCnt_mono (fun i => jOn s i t) hij
    have h3 := jCnt_mono (fun i => jOn s i t) (show j + 1 ≤ s.1 from hj)
    have h4 : jCnt (fun i => jOn s i t) s.1 ≤ 6 := h6 t
    omega
theorem jML_off {s : jN} {t i : Nat} (h : ∀ j, i ≤ j → j < s.1 → jOn s j t = false) : ∀ d, i + d ≤ s.1 → jML s t (i + d) = jML s t i ∧ jBs s t (i + d) = jBs s t i ∧ jCnt (fun i => jOn s i t) (i + d) = jCnt (fun i => jOn s i t) i
  | 0, _ => ⟨rfl, rfl, rfl⟩
  | d + 1, hd => by
    obtain ⟨a, b, c⟩ := jML_off h d (by omega)
    have ho := h (i + d) (by omega) (by omega)
    refine ⟨?_, ?_, ?_⟩
    · show jML s t (i + d + 1) = _; rw [jML_f ho, a]
    · show jBs s t (i + d + 1) = _; rw [jBs_f ho, b]
    · show jCnt _ (i + d + 1) = _; rw [jCnt_f (f := fun i => jOn s i t) ho, c]
theorem jML_end {s : jN} {t i : Nat} (hi : i ≤ s.1) (h : i = s.1 ∨ (jSix s ∧ jCnt (fun i => jOn s i t) i = 6)) : jML s t i = jMem s t ∧ jBs s t i = jBs s t s.1 ∧ jCnt (fun i => jOn s i t) i = jSnd s t := by
  rcases h with h | ⟨h6, hc⟩
  · subst h; exact ⟨rfl, rfl, rfl⟩
  · obtain ⟨a, b, c⟩ := jML_off (jSix_off h6 hc) (s.1 - i) (by omega)
    rw [show i + (s.1 - i) = s.1 by omega] at a b c
    exact ⟨a.symm, b.symm, c.symm⟩
def jSets (s : jN) : Nat → Nat → List (Nat × Nat)
  | 0, _ => []
  | f + 1, t => if 9999 ≤ t then [] else if 0 < jSnd s t then (t, jNext s (t + 1)) :: jSets s f (jNext s (t + 1)) else jSets s f (jNext s (t + 1))
def jS (s : jN) : List (Nat × Nat) := jSets s 31 (jNext s 0)
theorem jSets_len (s : jN) : ∀ f t, (jSets s f t).length ≤ f
  | 0, _ => Nat.le_refl _
  | f + 1, t => by
    have := jSets_len s f (jNext s (t + 1))
    unfold jSets
    split
    · simp
    · split
      · simp; omega
      · omega
/-- a set's cells in the class -/
def seRep (I : Nat → Nat → Int32) (s : jN) (k : Nat) (q : Nat × Nat) : Prop := I 21 k = nI q.1 ∧ I 22 k = nI q.2 ∧ I 23 k = nI (jBase s q.1) ∧ I 24 k = nI (jSnd s q.1) ∧ ∀ j m, (jMem s q.1)[j]? = some m → I 25 (k * 6 + j) = nI m
def sRep (I : Nat → Nat → Int32) (s : jN) (S : List (Nat × Nat)) : Prop := I 16 5 = nI S.length ∧ ∀ k q, S[k]? = some q → seRep I s k q
/-- the numbers of the variables: how many, and the table, behind the first sets -/
def jVm (s : jN) (S : List (Nat × Nat)) (k : Nat) (v : Nat × (Nat → Nat → Nat)) (m : Nat) : Nat × (Nat → Nat → Nat) :=
  if s.2.2.2.2 m && decide (0 < k) && jOn s m (S.getD (k - 1) (0, 0)).1 then (v.1, aU v.2 k m (v.2 (k - 1) m)) else (v.1 + 1, aU v.2 k m v.1)
def jVS (s : jN) (S : List (Nat × Nat)) : Nat → Nat × (Nat → Nat → Nat)
  | 0 => (0, fun _ _ => 0)
  | k + 1 => (jMem s (S.getD k (0, 0)).1).foldl (jVm s S k) (jVS s S k)
def vRep (I : Nat → Nat → Int32) (s : jN) (S : List (Nat × Nat)) : Prop := I 16 11 = nI (jVS s S S.length).1 ∧ ∀ k q m, S[k]? = some q → m ∈ jMem s q.1 → I 26 (k * 16 + m) = nI ((jVS s S S.length).2 k m)
