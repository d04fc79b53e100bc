/-! THE SQUARES ARE SUMS OF TERMS -/
def sEq (S : jQt) (T : List Tm) (E : List Nat) (e : Int) : Prop := (∀ i j, S.1 i j = tA T E e i j) ∧ (∀ i, S.2.1 i = tB T i) ∧ S.2.2 = tC T
theorem aU_if (M : Nat → Nat → Int) (x y : Nat) (v : Int) (i j : Nat) : aU M x y v i j = M i j + (if i = x ∧ j = y then v - M x y else 0) := by
  by_cases e : i = x ∧ j = y
  · obtain ⟨rfl, rfl⟩ := e; rw [aU_s, if_pos ⟨rfl, rfl⟩]; omega
  · rw [aU_n e, if_neg e]; omega
theorem ite_dl (x y i j : Nat) (w : Int) : (if i = x ∧ j = y then w else 0) = w * (dl1 x i * dl1 y j) := by
  unfold dl1
  by_cases a : x = i <;> by_cases b : y = j
  · rw [if_pos ⟨a.symm, b.symm⟩, if_pos a, if_pos b]; omega
  · rw [if_neg (fun z => b z.2.symm), if_pos a, if_neg b]; omega
  · rw [if_neg (fun z => a z.1.symm), if_neg a]; simp
  · rw [if_neg (fun z => a z.1.symm), if_neg a]; simp
theorem aU_dl (M : Nat → Nat → Int) (x y : Nat) (w : Int) (i j : Nat) : aU M x y (M x y + w) i j = M i j + w * (dl1 x i * dl1 y j) := by
  rw [aU_if, show M x y + w - M x y = w by omega, ite_dl]
theorem va_dl (M : Nat → Int) (x : Nat) (w : Int) (i : Nat) : va_up M x (M x + w) i = M i + w * dl1 x i := by
  unfold dl1
  by_cases e : i = x
  · subst e; simp [va_up]
  · rw [if_neg (fun z => e z.symm)]; simp [va_up, e]
theorem sEq_pair {S : jQt} {T : List Tm} {E : List Nat} {e : Int} (h : sEq S T E e) (x y : Nat) (w t : Int) : sEq (jPair S x y w t) (T ++ [(x, y, w, t)]) E e := by
  refine ⟨fun i j => ?_, fun i => ?_, ?_⟩
  · have e1 : (jPair S x y w t).1 i j = S.1 i j + w * (dl1 x i * dl1 x j) + w * (dl1 y i * dl1 y j) + (-w) * (dl1 x i * dl1 y j) + (-w) * (dl1 y i * dl1 x j) := by
      unfold jPair jA jBq jCq
      simp only [Int.sub_eq_add_neg]
      rw [aU_dl, aU_dl, aU_dl, aU_dl]
    rw [e1, h.1]
    unfold tA
    rw [ls_app]
    show _ = ls _ T + (w * (dl (x, y, w, t) i * dl (x, y, w, t) j) + 0) + _
    unfold dl
    grind
  · have e1 : (jPair S x y w t).2.1 i = S.2.1 i + w * t * dl1 x i + (-(w * t)) * dl1 y i := by
      unfold jPair jA jBq jCq
      simp only [Int.sub_eq_add_neg]
      rw [va_dl, va_dl]
    rw [e1, h.2.1]
    unfold tB
    rw [ls_app]
    show _ = ls _ T + (w * t * dl (x, y, w, t) i + 0)
    unfold dl
    grind
  · show S.2.2 + w * t * t = _
    rw [h.2.2]
    unfold tC
    rw [ls_app]
    show _ = ls _ T + (w * t * t + 0)
    omega
theorem sEq_eq {S : jQt} {T : List Tm} {E : List Nat} {e : Int} (h : sEq S T E e) (x : Nat) : sEq (jA S x x (S.1 x x + e)) T (E ++ [x]) e := by
  refine ⟨fun i j => ?_, h.2.1, h.2.2⟩
  show aU S.1 x x (S.1 x x + e) i j = _
  rw [aU_dl, h.1]
  unfold tA
  rw [ls_app]
  show _ = ls _ T + e * (ls _ E + (dl1 x i * dl1 x j + 0))
  grind
/-- pairs of a list -/
def pairsL (f : Nat → Nat → Tm) : List Nat → List Tm
  | [] => []
  | m :: t => t.map (f m) ++ pairsL f t
theorem sEq_map {E : List Nat} {e : Int} {F : jQt → Nat → jQt} {f : Nat → Tm} (hF : ∀ S x, F S x = jPair S (f x).1 (f x).2.1 (f x).2.2.1 (f x).2.2.2) : ∀ (l : List Nat) (S : jQt) (T : List Tm), sEq S T E e → sEq (l.foldl F S) (T ++ l.map f) E e
  | [], S, T, h => by simpa using h
  | x :: l, S, T, h => by
    have h1 := sEq_pair h (f x).1 (f x).2.1 (f x).2.2.1 (f x).2.2.2
    rw [← hF] at h1
    have := sEq_map hF l (F S x) _ h1
    rw [List.append_assoc] at this
    exact this
theorem sEq_pairs {E : List Nat} {e : Int} {F : jQt → Nat → Nat → jQt} {f : Nat → Nat → Tm} (hF : ∀ S m x, F S m x = jPair S (f m x).1 (f m x).2.1 (f m x).2.2.1 (f m x).2.2.2) : ∀ (l : List Nat) (S : jQt) (T : List Tm), sEq S T E e → sEq (pairsF F l S) (T ++ pairsL f l) E e
  | [], S, T, h => by simpa [pairsF, pairsL] using h
  | m :: t, S, T, h => by
    have h1 := sEq_map (hF := fun S x => hF S m x) t S T h
    have := sEq_pairs hF t _ _ h1
    rw [List.append_assoc] at this
    exact this
def tmCh (s : jN) (r : jR) (ch : Nat → Nat) (w : jW) (k m x : Nat) : Tm := (jV s k m, jV s k x, (w 2 : Int), jTd s r ch k m x)
def tmMv (s : jN) (w : jW) (k m : Nat) : Tm := (jV s k m, jV s (k + 1) m, (w 3 : Int), 0)
def jTk (s : jN) (r : jR) (ch : Nat → Nat) (w : jW) (k : Nat) : List Tm := pairsL (tmCh s r ch w k) (jMem s (jB s k)) ++ (if k + 1 < (jS s).length then ((jCm s k).filter (fun m => !s.2.2.2.2 m)).map (tmMv s w k) else [])
def jTs (s : jN) (r : jR) (ch : Nat → Nat) (w : jW) : Nat → List Tm
  | 0 => []
  | k + 1 => jTs s r ch w k ++ jTk s r ch w k
def jEs (s : jN) : Nat → List Nat
  | 0 => []
  | k + 1 => jEs s k ++ (jMem s (jB s k)).map (jV s k)
theorem sEq_mv {s : jN} {w : jW} {k : Nat} {E : List Nat} {e : Int} : ∀ (l : List Nat) (S : jQt) (T : List Tm), sEq S T E e → sEq (l.foldl (jMvF s w k) S) (T ++ (l.filter (fun m => !s.2.2.2.2 m)).map (tmMv s w k)) E e
  | [], S, T, h => by simpa using h
  | m :: l, S, T, h => by
    show sEq (l.foldl (jMvF s w k) (jMvF s w k S m)) _ E e
    unfold jMvF
    by_cases hb : s.2.2.2.2 m = true
    · rw [if_pos hb, List.filter_cons_of_neg (by simp [hb])]
      exact sEq_mv l S T h
    · rw [if_neg hb, List.filter_cons_of_pos (by simp at hb; simp [hb])]
      have h1 := sEq_pair h (jV s k m) (jV s (k + 1) m) (w 3 : Int) 0
      have := sEq_mv (s := s) (w := w) (k := k) l _ _ h1
      rw [List.append_assoc] at this
      exact this
theorem sEq_es {s : jN} {w : jW} {k : Nat} {T : List Tm} : ∀ (l : List Nat) (S : jQt) (E : List Nat), sEq S T E (w 4 : Int) → sEq (l.foldl (jEqF s w k) S) T (E ++ l.map (jV s k)) (w 4 : Int)
  | [], S, E, h => by simpa using h
  | m :: l, S, E, h => by
    have h1 := sEq_eq h (jV s k m)
    have := sEq_es (s := s) (w := w) (k := k) l _ _ h1
    rw [List.append_assoc] at this
    exact this
theorem sEq_gath (s : jN) (r : jR) (ch : Nat → Nat) (w : jW) : ∀ k, sEq (jGath s r ch w k) (jTs s r ch w k) (jEs s k) (w 4 : Int)
  | 0 => ⟨fun i j => by simp [jGath, jQ0, jTs, jEs, tA, ls], fun i => by simp [jGath, jQ0, jTs, tB, ls], by simp [jGath, jQ0, jTs, tC, ls]⟩
  | k + 1 => by
    have h1 := sEq_pairs (F := jChF s r ch w k) (f := tmCh s r ch w k) (fun S m x => rfl) (jMem s (jB s k)) _ _ (sEq_gath s r ch w k)
    have h2 : sEq (jMove s w k (jChord s r ch w k (jGath s r ch w k))) (jTs s r ch w k ++ jTk s r ch w k) (jEs s k) (w 4 : Int) := by
      unfold jMove jTk
      by_cases e : k + 1 < (jS s).length
      · rw [if_pos e, if_pos e, ← List.append_assoc]
        exact sEq_mv (jCm s k) _ _ h1
      · rw [if_neg e, if_neg e, List.append_nil]; exact h1
    exact sEq_es (jMem s (jB s k)) _ _ h2
/-- the terms are within -/
theorem pairsL_mem {f : Nat → Nat → Tm} {τ : Tm} : ∀ {l : List Nat}, τ ∈ pairsL f l → ∃ m x, m ∈ l ∧ x ∈ l ∧ τ = f m x
  | [], h => by cases h
  | m :: t, h => by
    rcases List.mem_append.mp h with g | g
    · obtain ⟨x, hx, rfl⟩ := List.mem_map.mp g
      exact ⟨m, x, List.mem_cons_self .., List.mem_cons_of_mem _ hx, rfl⟩
    · obtain ⟨a, b, h1, h2, h3⟩ := pairsL_mem g
      exact ⟨a, b, List.mem_cons_of_mem _ h1, List.mem_cons_of_mem _ h2, h3⟩
theorem pairsL_len (f : Nat → Nat → Tm) : ∀ l : List Nat, 2 * (pairsL f l).length + l.length = l.length * l.length
  | [] => rfl
  | m :: t => by
    have := pairsL_len f t
    show 2 * (t.map (f m) ++ pairsL f t).length + (t.length + 1) = (t.length + 1) * (t.length + 1)
    rw [List.length_append, List.length_map]
    grind
theorem jCm_sub {s : jN} {k m : Nat} (h : m ∈ jCm s k) : m < s.1 ∧ jOn s m (jB s k) = true ∧ jOn s m (jB s (k + 1)) = true := by
  unfold jCm at h
  obtain ⟨h1, h2⟩ := List.mem_filter.mp h
  obtain ⟨h3, h4⟩ := jML_mem.mp h1
  exact ⟨h3, h4, h2⟩
def tOk (s : jN) (τ : Tm) : Prop := (τ.1 < jVn s ∧ τ.2.1 < jVn s ∧ 0 ≤ τ.2.2.1) ∧ τ.2.2.1 ≤ 99 ∧ (τ.2.2.2.natAbs : Int) ≤ 470160
theorem jTk_in {s : jN} {r : jR} (hr : rOk r) (hg : rGood r) {ch : Nat → Nat} {w : jW} (hw : wOk w) {k : Nat} (hk : k < (jS s).length) : ∀ τ, τ ∈ jTk s r ch w k → tOk s τ := by
  intro τ ht
  have w2 := hw.2 2 (by decide) (by decide)
  have w3 := hw.2 3 (by decide) (by decide)
  unfold jTk at ht
  rcases List.mem_append.mp ht with g | g
  · obtain ⟨m, x, h1, h2, rfl⟩ := pairsL_mem g
    obtain ⟨a1, a2⟩ := jML_mem.mp h1
    obtain ⟨b1, b2⟩ := jML_mem.mp h2
    exact ⟨⟨jV_lt hk a1 a2, jV_lt hk b1 b2, by show (0 : Int) ≤ (w 2 : Int); omega⟩, by show ((w 2 : Nat) : Int) ≤ 99; omega, jTd_in hr hg ch k m x⟩
  · by_cases e : k + 1 < (jS s).length
    · rw [if_pos e] at g
      obtain ⟨m, h1, rfl⟩ := List.mem_map.mp g
      obtain ⟨a1, a2, a3⟩ := jCm_sub (List.mem_filter.mp h1).1
      exact ⟨⟨jV_lt hk a1 a2, jV_lt e a1 a3, by show (0 : Int) ≤ (w 3 : Int); omega⟩, by show ((w 3 : Nat) : Int) ≤ 99; omega, by show ((0 : Int).natAbs : Int) ≤ 470160; decide⟩
    · rw [if_neg e] at g; cases g
theorem jTs_in {s : jN} {r : jR} (hr : rOk r) (hg : rGood r) {ch : Nat → Nat} {w : jW} (hw : wOk w) : ∀ k, k ≤ (jS s).length → ∀ τ, τ ∈ jTs s r ch w k → tOk s τ
  | 0, _, τ, h => by cases h
  | k + 1, hk, τ, h => by
    rcases List.mem_append.mp h with g | g
    · exact jTs_in hr hg hw k (by omega) τ g
    · exact jTk_in hr hg hw (by omega) τ g
theorem jTk_len {s : jN} (h6 : jSix s) (r : jR) (ch : Nat → Nat) (w : jW) (k : Nat) : (jTk s r ch w k).length ≤ 21 := by
  have h1 := pairsL_len (tmCh s r ch w k) (jMem s (jB s k))
  have h2 : (jMem s (jB s k)).length ≤ 6 := by rw [jMem_len]; exact h6 _
  have h3 : (pairsL (tmCh s r ch w k) (jMem s (jB s k))).length ≤ 15 := by
    rcases (show (jMem s (jB s k)).length = 0 ∨ (jMem s (jB s k)).length = 1 ∨ (jMem s (jB s k)).length = 2 ∨ (jMem s (jB s k)).length = 3 ∨ (jMem s (jB s k)).length = 4 ∨ (jMem s (jB s k)).length = 5 ∨ (jMem s (jB s k)).length = 6 by omega) with e | e | e | e | e | e | e <;> rw [e] at h1 <;> omega
  have h4 := jCm_len h6 (k := k)
  unfold jTk
  rw [List.length_append]
  by_cases e : k + 1 < (jS s).length
  · rw [if_pos e, List.length_map]
    have := List.length_filter_le (fun m => !s.2.2.2.2 m) (jCm s k)
    omega
  · rw [if_neg e]; simp; omega
theorem jTs_len {s : jN} (h6 : jSix s) (r : jR) (ch : Nat → Nat) (w : jW) : ∀ k, (jTs s r ch w k).length ≤ 21 * k
  | 0 => Nat.le_refl _
  | k + 1 => by
    have h1 := jTs_len h6 r ch w k
    have h2 := jTk_len h6 r ch w k
    show (jTs s r ch w k ++ jTk s r ch w k).length ≤ _
    rw [List.length_append]; omega
theorem jEs_len {s : jN} (h6 : jSix s) : ∀ k, (jEs s k).length ≤ 6 * k
  | 0 => Nat.le_refl _
  | k + 1 => by
    have h1 := jEs_len h6 k
    have h2 : (jMem s (jB s k)).length ≤ 6 := by rw [jMem_len]; exact h6 _
    show (jEs s k ++ (jMem s (jB s k)).map (jV s k)).length ≤ _
    rw [List.length_append, List.length_map]; omega
theorem jEs_in {s : jN} : ∀ k, k ≤ (jS s).length → ∀ x, x ∈ jEs s k → x < jVn s
  | 0, _, x, h => by cases h
  | k + 1, hk, x, h => by
    rcases List.mem_append.mp h with g | g
    · exact jEs_in k (by omega) x g
    · obtain ⟨m, h1, rfl⟩ := List.mem_map.mp g
      obtain ⟨a1, a2⟩ := jML_mem.mp h1
      exact jV_lt (by omega) a1 a2
theorem jEs_of {s : jN} {k m : Nat} (hm : m ∈ jMem s (jB s k)) : ∀ n, k < n → jV s k m ∈ jEs s n
  | 0, h => absurd h (by omega)
  | n + 1, h => by
    by_cases e : k = n
    · subst e; exact List.mem_append_right _ (List.mem_map.mpr ⟨m, hm, rfl⟩)
    · exact List.mem_append_left _ (jEs_of hm n (by omega))
/-- each variable is a note's -/
def vOn (s : jN) (S : List (Nat × Nat)) (k : Nat) (d : List Nat) (v : Nat × (Nat → Nat → Nat)) : Prop := ∀ z, z < v.1 → (∃ k' m, k' < k ∧ m ∈ jMem s (S.getD k' (0, 0)).1 ∧ v.2 k' m = z) ∨ ∃ m, m ∈ d ∧ v.2 k m = z
theorem jVm_on {s : jN} {S : List (Nat × Nat)} {k : Nat} : ∀ (l d : List Nat) (v : Nat × (Nat → Nat → Nat)), (∀ m, m ∈ l → m ∉ d) → l.Nodup → vOn s S k d v → vOn s S k (d ++ l) (l.foldl (jVm s S k) v)
  | [], d, v, _, _, h => by rw [List.append_nil]; exact h
  | m :: t, d, v, hd, hn, h => by
    have hmd := hd m (List.mem_cons_self ..)
    have key : vOn s S k (d ++ [m]) (jVm s S k v m) := by
      unfold jVm
      by_cases hb : (s.2.2.2.2 m && decide (0 < k) && jOn s m (S.getD (k - 1) (0, 0)).1) = true
      · rw [if_pos hb]
        intro z hz
        rcases h z hz with ⟨k', m', h1, h2, h3⟩ | ⟨m', h1, h2⟩
        · exact Or.inl ⟨k', m', h1, h2, by show aU v.2 k m _ k' m' = z; rw [aU_n (by omega)]; exact h3⟩
        · exact Or.inr ⟨m', List.mem_append_left _ h1, by
            show aU v.2 k m _ k m' = z
            rw [aU_n (show ¬ (k = k ∧ m' = m) from fun e => hmd (by rw [← e.2]; exact h1))]; exact h2⟩
      · rw [if_neg hb]
        intro z hz
        by_cases e : z = v.1
        · exact Or.inr ⟨m, List.mem_append_right _ (List.mem_singleton_self m), by show aU v.2 k m _ k m = z; rw [aU_s, e]⟩
        · have hz' : z < v.1 + 1 := hz
          rcases h z (by omega) with ⟨k', m', h1, h2, h3⟩ | ⟨m', h1, h2⟩
          · exact Or.inl ⟨k', m', h1, h2, by show aU v.2 k m _ k' m' = z; rw [aU_n (by omega)]; exact h3⟩
          · exact Or.inr ⟨m', List.mem_append_left _ h1, by
              show aU v.2 k m _ k m' = z
              rw [aU_n (show ¬ (k = k ∧ m' = m) from fun e => hmd (by rw [← e.2]; exact h1))]; exact h2⟩
    obtain ⟨hn1, hn2⟩ := List.nodup_cons.mp hn
    have := jVm_on t (d ++ [m]) (jVm s S k v m) (fun x hx hx' => by
      rcases List.mem_append.mp hx' with g | g
      · exact hd x (List.mem_cons_of_mem _ hx) g
      · rw [List.mem_singleton.mp g] at hx; exact hn1 hx) hn2 key
    rw [List.append_assoc] at this
    exact this
theorem jVS_on (s : jN) (S : List (Nat × Nat)) : ∀ k, vOn s S k [] (jVS s S k)
  | 0 => fun z hz => absurd hz (by show ¬ z < 0; omega)
  | k + 1 => by
    have ih := jVS_on s S k
    have h := jVm_on (s := s) (S := S) (k := k) (jMem s (S.getD k (0, 0)).1) [] (jVS s S k) (fun m _ h => by cases h) (jMem_nodup s _ _) ih
    intro z hz
    rcases h z hz with ⟨k', m', h1, h2, h3⟩ | ⟨m', h1, h2⟩
    · exact Or.inl ⟨k', m', by omega, h2, h3⟩
    · exact Or.inl ⟨k, m', by omega, by simpa using h1, h2⟩
theorem jEs_all {s : jN} {x : Nat} (hx : x < jVn s) : x ∈ jEs s (jS s).length := by
  rcases jVS_on s (jS s) (jS s).length x hx with ⟨k', m, h1, h2, h3⟩ | ⟨m, h1, _⟩
  · rw [← h3]; exact jEs_of (k := k') h2 _ h1
  · cases h1
