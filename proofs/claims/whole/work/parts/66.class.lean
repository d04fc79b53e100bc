/-! THE CLASS AS A WHOLE -/
theorem last_start (s : jN) (fr t : Nat) (ht : fr ≤ t) : ∀ n, ∃ u, (u = fr ∨ ∃ i, i < n ∧ u = s.2.2.1 i ∧ fr < u) ∧ fr ≤ u ∧ u ≤ t ∧ ∀ i, i < n → s.2.2.1 i ≤ t → s.2.2.1 i ≤ u
  | 0 => ⟨fr, Or.inl rfl, Nat.le_refl _, ht, fun i hi => absurd hi (by omega)⟩
  | n + 1 => by
    obtain ⟨u, h1, h2, h3, h4⟩ := last_start s fr t ht n
    by_cases e : u < s.2.2.1 n ∧ s.2.2.1 n ≤ t
    · exact ⟨s.2.2.1 n, Or.inr ⟨n, by omega, rfl, by omega⟩, by omega, e.2, fun i hi hit => by
        by_cases g : i = n
        · subst g; omega
        · have := h4 i (by omega) hit; omega⟩
    · exact ⟨u, h1.elim Or.inl (fun ⟨i, a, b⟩ => Or.inr ⟨i, by omega, b⟩), h2, h3, fun i hi hit => by
        by_cases g : i = n
        · subst g; omega
        · exact h4 i (by omega) hit⟩
theorem jCnt_le2 {f g : Nat → Bool} : ∀ n, (∀ i, i < n → f i = true → g i = true) → jCnt f n ≤ jCnt g n := jCnt_grow
theorem jSnd_push (s : jN) (a fr to t : Nat) : jSnd (jPush s a fr to) t = jSnd s t + (if fr ≤ t ∧ t < to then 1 else 0) := by
  unfold jSnd
  show jCnt (fun i => jOn (jPush s a fr to) i t) (s.1 + 1) = _
  have h1 : ∀ i, i < s.1 → jOn (jPush s a fr to) i t = jOn s i t := fun i hi => by
    unfold jOn jPush
    simp [va_up, show ¬ i = s.1 by omega]
  have h2 : jCnt (fun i => jOn (jPush s a fr to) i t) s.1 = jCnt (fun i => jOn s i t) s.1 := by
    have : ∀ n, n ≤ s.1 → jCnt (fun i => jOn (jPush s a fr to) i t) n = jCnt (fun i => jOn s i t) n := fun n => by
      induction n with
      | zero => intro _; rfl
      | succ n ih => intro hn; show (if jOn (jPush s a fr to) n t then _ else _) = (if jOn s n t then _ else _); rw [h1 n (by omega), ih (by omega)]
    exact this s.1 (Nat.le_refl _)
  have h3 : jOn (jPush s a fr to) s.1 t = (decide (fr ≤ t) && decide (t < to)) := by unfold jOn jPush; simp [va_up]
  show (if jOn (jPush s a fr to) s.1 t then jCnt _ s.1 + 1 else jCnt _ s.1) = _
  rw [h2, h3]
  by_cases e : fr ≤ t ∧ t < to
  · rw [if_pos e, if_pos (by simp [e])]
  · rw [if_neg e, if_neg (by simp; omega)]; rfl
theorem jSix_push {s : jN} (h6 : jSix s) {a fr to : Nat} (hf : jFull s fr to = false) : jSix (jPush s a fr to) := by
  intro t
  rw [jSnd_push]
  have h := h6 t
  by_cases e : fr ≤ t ∧ t < to
  · rw [if_pos e]
    obtain ⟨u, h1, h2, h3, h4⟩ := last_start s fr t e.1 s.1
    have h5 : jSnd s t ≤ jSnd s u := jCnt_grow s.1 (fun i hi ho => by
      unfold jOn at ho ⊢
      simp only [Bool.and_eq_true, decide_eq_true_eq] at ho ⊢
      exact ⟨h4 i hi ho.1, by omega⟩)
    have h6' : jSnd s u < 6 := by
      refine Nat.lt_of_not_le (fun g => ?_)
      rcases h1 with q | ⟨i, q1, q2, q3⟩
      · rw [q] at g
        unfold jFull at hf
        simp [g] at hf
      · rw [q2] at g q3
        have := jFull_at (to := to) q1 q3 (by omega) g
        rw [this] at hf; cases hf
    omega
  · rw [if_neg e]; omega
theorem jOk_push {s : jN} (h : jOk s) (h16 : s.1 < 16) {a b c : Nat} (ha : a ≤ 127) (hbc : b < c) (hc : c ≤ 9999) : jOk (jPush s a b c) := by
  refine ⟨by show s.1 + 1 ≤ 16; omega, fun i hi => ?_⟩
  have hi' : i < s.1 + 1 := hi
  by_cases e : i = s.1
  · subst e; unfold jPush; simp [va_up]; omega
  · have := h.2 i (by omega)
    unfold jPush; simp [va_up, e]; exact this
abbrev jZ : Type := jN × jR × jW × Bool × Bool × List Nat
noncomputable def zV (s : jN) (r : jR) (w : jW) (a : Nat) : Int := if a < jVn s then zN s r (jChs s r w) w a else if a = 20 then zD s r (jChs s r w) w else zW s r (jChs s r w) w
def czOk (s : jN) (r : jR) : Prop := 0 < (jS s).length ∧ ∀ k, k < (jS s).length → 0 < jCo s r (jB s k) ∧ jCo s r (jB s k) ≤ 64
def clRep (I : Nat → Nat → Int32) (z : jZ) : Prop := cRep I z.1 ∧ rRep I z.2.1 ∧ rGood z.2.1 ∧ wRep I z.2.2.1 ∧ I 8 10 = bI z.2.2.2.1 ∧ I 8 11 = bI z.2.2.2.2.1 ∧ (z.2.2.2.2.1 = true → z.2.2.2.1 = true) ∧ (z.2.2.2.1 = true → czOk z.1 z.2.1 ∧ cgRep I z.1 (jChs z.1 z.2.1 z.2.2.1) ∧ chRep I z.1 z.2.1 (jChs z.1 z.2.1 z.2.2.1)) ∧ (z.2.2.2.2.1 = true → jVn z.1 ≤ 20 ∧ I 53 5 = nI (jLo z.1 z.2.1 (jChs z.1 z.2.1 z.2.2.1) z.2.2.1) ∧ ∀ a, (a < jVn z.1 ∨ a = 20 ∨ a = 21) → wR I (115 + 2 * a) ((zV z.1 z.2.1 z.2.2.1 a).natAbs : Int) (decide (zV z.1 z.2.1 z.2.2.1 a < 0))) ∧ tRep I z.2.2.2.2.2
def clK (I I' : Nat → Nat → Int32) : Prop := ∀ q j, 158 < q → I' q j = I q j
def clKL (L L' : Nat → Nat → Int64) : Prop := ∀ q j, 158 < q → L' q j = L q j
def clSame (I I' : Nat → Nat → Int32) : Prop := ∀ q j, ((8 ≤ q ∧ q ≤ 26 ∧ ¬ (q = 16 ∧ j = 13)) ∨ q = 37 ∨ q = 38 ∨ q = 42 ∨ (50 ≤ q ∧ q ≤ 52) ∨ (q = 53 ∧ j = 5) ∨ (115 ≤ q ∧ q ≤ 158)) → I' q j = I q j
theorem cRep_of {I I' : Nat → Nat → Int32} {s : jN} (h : ∀ q j, 16 ≤ q → q ≤ 26 → ¬ (q = 16 ∧ j = 13) → I' q j = I q j) (hs : cRep I s) : cRep I' s := by
  obtain ⟨g1, g2, g3, g4, g5⟩ := hs
  refine ⟨⟨by rw [h 16 0 (by omega) (by omega) (by omega)]; exact g1.1, fun i hi => by rw [h 17 i (by omega) (by omega) (by omega), h 18 i (by omega) (by omega) (by omega), h 19 i (by omega) (by omega) (by omega), h 20 i (by omega) (by omega) (by omega)]; exact g1.2 i hi⟩, g2, g3, ⟨by rw [h 16 5 (by omega) (by omega) (by omega)]; exact g4.1, fun x q hq => ?_⟩, by rw [h 16 11 (by omega) (by omega) (by omega)]; exact g5.1, fun x q m h1 h2 => by rw [h 26 _ (by omega) (by omega) (by omega)]; exact g5.2 x q m h1 h2⟩
  obtain ⟨d1, d2, d3, d4, d5⟩ := g4.2 x q hq
  exact ⟨by rw [h 21 x (by omega) (by omega) (by omega)]; exact d1, by rw [h 22 x (by omega) (by omega) (by omega)]; exact d2, by rw [h 23 x (by omega) (by omega) (by omega)]; exact d3, by rw [h 24 x (by omega) (by omega) (by omega)]; exact d4, fun j m hj => by rw [h 25 _ (by omega) (by omega) (by omega)]; exact d5 j m hj⟩
theorem rRep_of {I I' : Nat → Nat → Int32} {r : jR} (k : ∀ q j, 11 ≤ q → q ≤ 15 → I' q j = I q j) (hr : rRep I r) : rRep I' r := by
  have keep : ∀ sl a b, slRep I sl a b → slRep I' sl a b := fun sl a b z => ⟨by rw [k 11 _ (by omega) (by omega)]; exact z.1, by rw [k 12 _ (by omega) (by omega)]; exact z.2.1, by rw [k 13 _ (by omega) (by omega)]; exact z.2.2.1, fun p hp => by rw [k 14 _ (by omega) (by omega)]; exact z.2.2.2 p hp⟩
  exact ⟨hr.1, fun c hc => ⟨by rw [k 15 c (by omega) (by omega)]; exact (hr.2.1 c hc).1, fun i hi => keep _ _ _ ((hr.2.1 c hc).2 i hi)⟩, keep _ _ _ hr.2.2⟩
theorem wRep_of {I I' : Nat → Nat → Int32} {w : jW} (k : ∀ j, I' 9 j = I 9 j) (h : wRep I w) : wRep I' w := ⟨h.1, fun i hi => (k i).trans (h.2 i hi)⟩
theorem tRep_of {I I' : Nat → Nat → Int32} {l : List Nat} (k : ∀ q j, q = 37 ∨ q = 38 → I' q j = I q j) (h : tRep I l) : tRep I' l := ⟨(k 37 1 (by omega)).trans h.1, h.2.1, fun j c hj => ⟨(k 38 j (by omega)).trans (h.2.2 j c hj).1, (h.2.2 j c hj).2⟩⟩
theorem clRep_same {I I' : Nat → Nat → Int32} {z : jZ} (h : clSame I I') (hz : clRep I z) : clRep I' z := by
  obtain ⟨a1, a2, a3, a4, a5, a6, a7, a8, a9, a10⟩ := hz
  refine ⟨cRep_of (fun q j g1 g2 g3 => h q j (by omega)) a1, rRep_of (fun q j g1 g2 => h q j (by omega)) a2, a3, wRep_of (fun j => h 9 j (by omega)) a4, (h 8 10 (by omega)).trans a5, (h 8 11 (by omega)).trans a6, a7, fun g => ?_, fun g => ?_, tRep_of (fun q j g => h q j (by omega)) a10⟩
  · obtain ⟨b1, b2, b3⟩ := a8 g
    exact ⟨b1, fun k hk => ⟨(h 42 k (by omega)).trans (b2 k hk).1, (b2 k hk).2⟩, fun k hk => ⟨(h 51 k (by omega)).trans (b3 k hk).1, fun p hp => (h 50 _ (by omega)).trans ((b3 k hk).2.1 p hp), (h 52 k (by omega)).trans (b3 k hk).2.2⟩⟩
  · obtain ⟨b1, b2, b3⟩ := a9 g
    exact ⟨b1, (h 53 5 (by omega)).trans b2, fun a ha => ⟨fun i hi => (h _ i (by omega)).trans ((b3 a ha).1 i hi), (h _ 1 (by omega)).trans (b3 a ha).2⟩⟩
theorem clRep_new {I : Nat → Nat → Int32} {s : jN} {r : jR} {w : jW} {tx : List Nat} (h1 : cRep I s) (h2 : rRep I r) (h3 : rGood r) (h4 : wRep I w) (h5 : I 8 10 = bI false) (h6 : I 8 11 = bI false) (h7 : tRep I tx) : clRep I (s, r, w, false, false, tx) :=
  ⟨h1, h2, h3, h4, h5, h6, fun g => g, fun g => absurd g Bool.false_ne_true, fun g => absurd g Bool.false_ne_true, h7⟩
/-- what each call answers and leaves -/
def jNv (a b c : Int32) : Bool := !decide (a < 0) && !decide (nI 127 < a) && !decide (b < 0) && !decide (c ≤ b) && decide (c ≤ nI 9999)
abbrev cn0 (x : Int32) : Nat := x.toNatClampNeg
def oNote (z : jZ) (a b c : Int32) : Int32 × jZ := if jNv a b c then (if jFull z.1 (cn0 b) (cn0 c) then (-3, z) else (nI z.1.1, jPush z.1 (cn0 a) (cn0 b) (cn0 c), z.2.1, z.2.2.1, false, false, z.2.2.2.2.2)) else (-1, z)
def jN0 (s : jN) : jN := (0, s.2)
def oClear (z : jZ) : Int32 × jZ := (nI z.1.1, jN0 z.1, z.2.1, z.2.2.1, false, false, z.2.2.2.2.2)
def oBind (z : jZ) (x : Int32) (b : Bool) : Int32 × jZ := if jIx x z.1.1 then (bI (z.1.2.2.2.2 (cn0 x)), jBind z.1 (cn0 x) b, z.2.1, z.2.2.1, false, false, z.2.2.2.2.2) else (-1, z)
def oRatio (z : jZ) (x u d : Int32) : Int32 × jZ := if jIx x 12 && jAl u d && !jHas z.2.1 (cn0 x) u d (z.2.1.1 (cn0 x)) then (if 3 ≤ z.2.1.1 (cn0 x) then (-3, z) else (nI (z.2.1.1 (cn0 x)), z.1, rPush z.2.1 (cn0 x) (cn0 u) (cn0 d), z.2.2.1, false, false, z.2.2.2.2.2)) else (-1, z)
def oEmpty (z : jZ) (x : Int32) : Int32 × jZ := if jIx x 12 then (nI (z.2.1.1 (cn0 x)), z.1, rClear z.2.1 (cn0 x), z.2.2.1, false, false, z.2.2.2.2.2) else (-1, z)
def gw (i : Nat) : Nat := ([1000000, 99, 99, 99, 99] : List Nat).getD i 0
def oWeight (z : jZ) (x v : Int32) : Int32 × jZ := if jIx x 5 && !decide (v < 0) && decide (v ≤ nI (gw (cn0 x))) then (nI (z.2.2.1 (cn0 x)), z.1, z.2.1, va_up z.2.2.1 (cn0 x) (cn0 v), false, false, z.2.2.2.2.2) else (-1, z)
def oSet (z : jZ) (x y : Int32) : Int32 := if jIx x (jS z.1).length then (if y = nI 0 then nI ((jS z.1).getD (cn0 x) (0, 0)).1 else if y = nI 1 then nI ((jS z.1).getD (cn0 x) (0, 0)).2 else if y = nI 2 then nI (jBase z.1 (jB z.1 (cn0 x))) else if y = nI 3 then nI (jSnd z.1 (jB z.1 (cn0 x))) else if y = nI 4 then nI (jCo z.1 z.2.1 (jB z.1 (cn0 x))) else -1) else -1
def oSounds (z : jZ) (x y : Int32) : Int32 := if jIx x (jS z.1).length && jIx y z.1.1 then bI (jOn z.1 (cn0 y) (jB z.1 (cn0 x))) else -1
def oReading (z : jZ) (x rd y v : Int32) : Int32 := if jHasRd z.1 z.2.1 x rd && jPart z.1 x y then (if v = nI 0 then nI (jU z.2.1 (jSl z.1 z.2.1 (jB z.1 (cn0 x)) (cn0 rd) (cn0 y))) else if v = nI 1 then nI (jD z.2.1 (jSl z.1 z.2.1 (jB z.1 (cn0 x)) (cn0 rd) (cn0 y))) else if v = nI 2 then jTg z.1 z.2.1 (jB z.1 (cn0 x)) (cn0 rd) (cn0 y) else -1) else -1
def oHarsh (z : jZ) (x rd : Int32) : Int32 := if jHasRd z.1 z.2.1 x rd then jHarsh z.1 z.2.1 (jB z.1 (cn0 x)) (cn0 rd) else -1
def oChoose (z : jZ) : Int64 × jZ := if (jS z.1).length = 0 ∨ jLeast z.1 z.2.1 = 0 then (-2, z) else if 64 < jMost z.1 z.2.1 then (-3, z) else (jCost z.1 z.2.1 z.2.2.1 ((jS z.1).length - 1) (jChs z.1 z.2.1 z.2.2.1 0), z.1, z.2.1, z.2.2.1, true, false, z.2.2.2.2.2)
def oChosen (z : jZ) (x : Int32) : Int32 := if jIx x (jS z.1).length then (if z.2.2.2.1 then nI (jChs z.1 z.2.1 z.2.2.1 (cn0 x)) else -9) else -1
def oSolve (z : jZ) : Int32 × jZ := if z.2.2.2.1 then (if 20 < jVn z.1 then (-3, z) else (nI (jVn z.1), z.1, z.2.1, z.2.2.1, true, true, z.2.2.2.2.2)) else (-2, z)
def oVariable (z : jZ) (x y : Int32) : Int32 := if jPart z.1 x y then nI (jV z.1 (cn0 x) (cn0 y)) else -1
def oLoose (z : jZ) : Int32 := if z.2.2.2.2.1 then nI (jLo z.1 z.2.1 (jChs z.1 z.2.1 z.2.2.1) z.2.2.1) else -2
def oText (z : jZ) (x : Int32) : Int32 := if jIx x z.2.2.2.2.2.length then nI (z.2.2.2.2.2.getD (cn0 x) 0) else -9
def oPure (z : jZ) (x y : Int32) : Int32 := if jIx x (jS z.1).length && !decide (y < 0) && decide (y ≤ nI 7) then (if z.2.2.2.1 then (if cn0 y < 6 then jSh z.1 z.2.1 (jChs z.1 z.2.1 z.2.2.1) (cn0 x) (cn0 y) else if cn0 y = 6 then nI (jChn z.1 (cn0 x)) else jDr z.1 z.2.1 (jChs z.1 z.2.1 z.2.2.1) (cn0 x)) else -2) else -1
def oPump (z : jZ) (x y : Int32) : Int32 := if !decide (x < 0) && !decide (y < 0) && decide (y ≤ nI 2) then (if z.2.2.2.1 then (match (jPo z.1 z.2.1 (jChs z.1 z.2.1 z.2.2.1) (jS z.1).length)[cn0 x]? with | some q => jPv z.1 z.2.1 (jChs z.1 z.2.1 z.2.2.1) q.1 q.2 (cn0 y) | none => -9) else -2) else -1
/-- the text of a fraction -/
theorem isDec_unique : ∀ (X : Nat) {l m : List Nat}, isDec l X → isDec m X → l = m := by
  intro X
  induction X using Nat.strongRecOn with
  | _ X ih =>
    intro l m hl hm
    have split : ∀ {l : List Nat}, isDec l X → ∃ a d, l = a ++ [d] ∧ d < 10 ∧ dVal a * 10 + d = X ∧ (a = [] ∨ (a ≠ [] ∧ isDec a (X / 10) ∧ 0 < X / 10)) := by
      intro l h
      obtain ⟨h1, h2, h3, h4⟩ := h
      refine ⟨l.dropLast, l.getLast h3, (List.dropLast_concat_getLast h3).symm, h2 _ (List.getLast_mem h3), ?_, ?_⟩
      · rw [← dVal_app, List.dropLast_concat_getLast h3, h1]
      · by_cases e : l.dropLast = []
        · exact Or.inl e
        · refine Or.inr ⟨e, ?_⟩
          have hlen : 1 < l.length := by
            have : l.dropLast.length = l.length - 1 := List.length_dropLast
            have : 0 < l.dropLast.length := List.length_pos_iff.mpr e
            omega
          have hx : dVal l.dropLast * 10 + l.getLast h3 = X := by rw [← dVal_app, List.dropLast_concat_getLast h3, h1]
          have hd := h2 _ (List.getLast_mem h3)
          have hq : dVal l.dropLast = X / 10 := by omega
          have hh : l.dropLast.head? = l.head? := by
            cases l with
            | nil => exact absurd rfl h3
            | cons x t =>
              cases t with
              | nil => simp at hlen
              | cons y t => rfl
          have hne : l.dropLast.head? ≠ some 0 := by rw [hh]; exact h4 hlen
          refine ⟨⟨hq, fun d hd => h2 d (List.dropLast_subset l hd), e, fun _ => hne⟩, ?_⟩
          rw [← hq]
          cases hdl : l.dropLast with
          | nil => exact absurd hdl e
          | cons x t =>
            rw [hdl] at hne
            have hx0 : x ≠ 0 := fun z => hne (by rw [z]; rfl)
            have gen : ∀ (t : List Nat) (a : Nat), 0 < a → 0 < t.foldl (fun a d => a * 10 + d) a := by
              intro t
              induction t with
              | nil => intro a h; exact h
              | cons y t iht => intro a h; exact iht (a * 10 + y) (by omega)
            exact gen t (0 * 10 + x) (by omega)
    obtain ⟨a, d, e1, e2, e3, e4⟩ := split hl
    obtain ⟨b, c, f1, f2, f3, f4⟩ := split hm
    have hdc : d = c := by omega
    have hab : a = b := by
      rcases e4 with g | ⟨g1, g2, g3⟩
      · rcases f4 with q | ⟨q1, q2, q3⟩
        · rw [g, q]
        · exfalso
          rw [g] at e3
          have : dVal ([] : List Nat) = 0 := rfl
          omega
      · rcases f4 with q | ⟨q1, q2, q3⟩
        · exfalso
          rw [q] at f3
          have : dVal ([] : List Nat) = 0 := rfl
          omega
        · exact ih (X / 10) (by omega) g2 q2
    rw [e1, f1, hdc, hab]
theorem isTx_unique {l m : List Nat} {ng : Bool} {x y : Nat} (h : isTx l ng x y) (h' : isTx m ng x y) : l = m := by
  obtain ⟨d1, d2, a1, a2, a3⟩ := h
  obtain ⟨e1, e2, b1, b2, b3⟩ := h'
  rw [a3, b3, isDec_unique x a1 b1, isDec_unique y a2 b2]
noncomputable def txOf (N D : Int) : List Nat := @dite (List Nat) (∃ l, isTx l (decide (N < 0)) (N.natAbs / Nat.gcd N.natAbs D.natAbs) (D.natAbs / Nat.gcd N.natAbs D.natAbs)) (Classical.propDecidable _) (fun h => Classical.choose h) (fun _ => [])
theorem txOf_eq {l : List Nat} {N D : Int} (h : isTx l (decide (N < 0)) (N.natAbs / Nat.gcd N.natAbs D.natAbs) (D.natAbs / Nat.gcd N.natAbs D.natAbs)) : txOf N D = l := by
  have hx : ∃ l, isTx l (decide (N < 0)) (N.natAbs / Nat.gcd N.natAbs D.natAbs) (D.natAbs / Nat.gcd N.natAbs D.natAbs) := ⟨l, h⟩
  unfold txOf
  rw [dif_pos hx]
  exact isTx_unique (Classical.choose_spec hx) h
noncomputable def oTxt (z : jZ) (N D : Int) : Int32 × jZ := (nI (txOf N D).length, z.1, z.2.1, z.2.2.1, z.2.2.2.1, z.2.2.2.2.1, txOf N D)
noncomputable def oPlace (z : jZ) (x y : Int32) : Int32 × jZ := if jPart z.1 x y then (if z.2.2.2.2.1 then oTxt z (zV z.1 z.2.1 z.2.2.1 (jV z.1 (cn0 x) (cn0 y)) + zV z.1 z.2.1 z.2.2.1 20 * ((10000 * z.1.2.1 (cn0 y) : Nat) : Int)) (zV z.1 z.2.1 z.2.2.1 20) else (-2, z)) else (-1, z)
noncomputable def oMove (z : jZ) (x y : Int32) : Int32 × jZ := if jPart z.1 x y then (if z.2.2.2.2.1 then oTxt z (zV z.1 z.2.1 z.2.2.1 (jV z.1 (cn0 x) (cn0 y))) (zV z.1 z.2.1 z.2.2.1 20) else (-2, z)) else (-1, z)
noncomputable def oEnergy (z : jZ) : Int32 × jZ := if z.2.2.2.2.1 then oTxt z (zV z.1 z.2.1 z.2.2.1 21) (zV z.1 z.2.1 z.2.2.1 20) else (-2, z)
noncomputable def oNear (z : jZ) (x y : Int32) : Int32 := if jPart z.1 x y then (if z.2.2.2.2.1 then nI (10000 * z.1.2.1 (cn0 y)) + iZ ((zV z.1 z.2.1 z.2.2.1 (jV z.1 (cn0 x) (cn0 y)) * 2 + zV z.1 z.2.1 z.2.2.1 20) / (zV z.1 z.2.1 z.2.2.1 20 * 2)) else -2) else -1
