/-! WHAT THE NOTES SAY: a score is (how many, key, from, to, bound) -/
abbrev jN : Type := Nat × (Nat → Nat) × (Nat → Nat) × (Nat → Nat) × (Nat → Bool)
def jOk (s : jN) : Prop := s.1 ≤ 16 ∧ ∀ i, i < s.1 → s.2.1 i ≤ 127 ∧ s.2.2.1 i < s.2.2.2.1 i ∧ s.2.2.2.1 i ≤ 9999
def jOn (s : jN) (i t : Nat) : Bool := decide (s.2.2.1 i ≤ t) && decide (t < s.2.2.2.1 i)
def jCnt (f : Nat → Bool) : Nat → Nat
  | 0 => 0
  | n + 1 => if f n then jCnt f n + 1 else jCnt f n
theorem jCnt_le (f : Nat → Bool) : ∀ n, jCnt f n ≤ n
  | 0 => Nat.le_refl _
  | n + 1 => by unfold jCnt; have := jCnt_le f n; split <;> omega
theorem jCnt_t {f : Nat → Bool} {n : Nat} (h : f n = true) : jCnt f (n + 1) = jCnt f n + 1 := by show (if f n then _ else _) = _; rw [h]; rfl
theorem jCnt_f {f : Nat → Bool} {n : Nat} (h : f n = false) : jCnt f (n + 1) = jCnt f n := by show (if f n then _ else _) = _; rw [h]; rfl
def jSnd (s : jN) (t : Nat) : Nat := jCnt (fun i => jOn s i t) s.1
/-- the least tick from a on among those of the first n notes, or 9999 -/
def jNx (s : jN) (a : Nat) : Nat → Nat
  | 0 => 9999
  | n + 1 =>
    let l1 := if a ≤ s.2.2.1 n then min (jNx s a n) (s.2.2.1 n) else jNx s a n
    if a ≤ s.2.2.2.1 n then min l1 (s.2.2.2.1 n) else l1
def jNext (s : jN) (a : Nat) : Nat := jNx s a s.1
theorem jNx_le (s : jN) (a : Nat) : ∀ n, jNx s a n ≤ 9999
  | 0 => Nat.le_refl _
  | n + 1 => by
    have := jNx_le s a n
    unfold jNx
    simp only
    split <;> split <;> omega
/-- more than six would sound, or there are sixteen -/
def jFullAt (s : jN) (fr to : Nat) : Nat → Bool
  | 0 => false
  | n + 1 => jFullAt s fr to n || (decide (fr < s.2.2.1 n) && decide (s.2.2.1 n < to) && decide (6 ≤ jSnd s (s.2.2.1 n)))
def jFull (s : jN) (fr to : Nat) : Bool := decide (16 ≤ s.1) || decide (6 ≤ jSnd s fr) || jFullAt s fr to s.1
/-- the class's cells hold the notes -/
def nRep (I : Nat → Nat → Int32) (s : jN) : Prop := I 16 0 = nI s.1 ∧ ∀ i, i < s.1 → I 17 i = nI (s.2.1 i) ∧ I 18 i = nI (s.2.2.1 i) ∧ I 19 i = nI (s.2.2.2.1 i) ∧ I 20 i = bI (s.2.2.2.2 i)
theorem on_t {s : jN} {i t : Nat} (h1 : s.2.2.1 i ≤ t) (h2 : t < s.2.2.2.1 i) : jOn s i t = true := by simp [jOn, h1, h2]
theorem on_f1 {s : jN} {i t : Nat} (h1 : t < s.2.2.1 i) : jOn s i t = false := by simp [jOn]; omega
theorem on_f2 {s : jN} {i t : Nat} (h1 : s.2.2.2.1 i ≤ t) : jOn s i t = false := by simp [jOn]; omega
theorem nI_pm {f a : Nat} (hf : f < 2 ^ 31) (ha : a < 2 ^ 31) : nI f ≤ nI a - 1 ↔ f < a := by
  rw [Int32.le_iff_toInt_le, nI_toInt hf, Int32.toInt_sub, nI_toInt ha, show (1 : Int32).toInt = 1 from rfl, Int.bmod_eq_of_le (by omega) (by omega)]
  omega
