/-! ROWS OF THE ABSTRACT MACHINE: locals, stack, arithmetic, branches -/
def aGet (i : Nat) : List (Nat × Value) → Option Value
  | [] => none
  | q :: t => if q.1 = i then some q.2 else aGet i t
theorem aGet_mem {i : Nat} {v : Value} : ∀ {lv : List (Nat × Value)}, aGet i lv = some v → (i, v) ∈ lv
  | [], h => by cases h
  | q :: t, h => by
    unfold aGet at h
    by_cases e : q.1 = i
    · rw [if_pos e] at h
      cases h
      subst e
      exact List.mem_cons_self
    · rw [if_neg e] at h
      exact List.mem_cons_of_mem _ (aGet_mem h)
theorem aLv_get {ls : Array Slot} {n : Nat} {ad : Nat → Nat} {lv : List (Nat × Value)} {i : Nat} {v : Value} (hl : lv_has ls n (aLv ad lv)) (h : aGet i lv = some v) : ls[i]? = some (.val (aV ad v)) :=
  hl.2.2 (i, aV ad v) (List.mem_map.mpr ⟨(i, v), aGet_mem h, rfl⟩)
/-- a local of one slot is set, in its place -/
def aS1 (i : Nat) (v : Value) : List (Nat × Value) → List (Nat × Value)
  | [] => [(i, v)]
  | q :: t => if q.1 = i then (i, v) :: t.filter (fun q => !(q.1 == i) && !(q.1 + 1 == i && q.2.category == 2)) else if q.1 + 1 = i ∧ q.2.category = 2 then aS1 i v t else q :: aS1 i v t
theorem aS1_mem {i : Nat} {v : Value} : ∀ {lv : List (Nat × Value)} {x : Nat × Value}, x ∈ aS1 i v lv → x = (i, v) ∨ (x ∈ lv ∧ ¬ x.1 = i ∧ ¬ (x.1 + 1 = i ∧ x.2.category = 2))
  | [], x, h => by
    unfold aS1 at h
    exact Or.inl (List.mem_singleton.mp h)
  | q :: t, x, h => by
    unfold aS1 at h
    by_cases e : q.1 = i
    · rw [if_pos e] at h
      rcases List.mem_cons.mp h with h | h
      · exact Or.inl h
      · obtain ⟨h1, h2⟩ := List.mem_filter.mp h
        simp only [Bool.and_eq_true, Bool.not_eq_true', beq_eq_false_iff_ne, ne_eq, Bool.and_eq_false_iff] at h2
        refine Or.inr ⟨List.mem_cons_of_mem _ h1, h2.1, fun z => ?_⟩
        rcases h2.2 with w | w
        · exact w z.1
        · exact w z.2
    · rw [if_neg e] at h
      by_cases e2 : q.1 + 1 = i ∧ q.2.category = 2
      · rw [if_pos e2] at h
        rcases aS1_mem h with h | ⟨h1, h2⟩
        · exact Or.inl h
        · exact Or.inr ⟨List.mem_cons_of_mem _ h1, h2⟩
      · rw [if_neg e2] at h
        rcases List.mem_cons.mp h with h | h
        · subst h
          exact Or.inr ⟨List.mem_cons_self, e, e2⟩
        · rcases aS1_mem h with h | ⟨h1, h2⟩
          · exact Or.inl h
          · exact Or.inr ⟨List.mem_cons_of_mem _ h1, h2⟩
/-- a local of two slots is set, in its place -/
def aS2 (i : Nat) (v : Value) : List (Nat × Value) → List (Nat × Value)
  | [] => [(i, v)]
  | q :: t => if q.1 = i then (i, v) :: t.filter (fun q => !(q.1 == i) && (!(q.1 == i + 1) && !(q.1 + 1 == i && q.2.category == 2))) else if q.1 = i + 1 ∨ (q.1 + 1 = i ∧ q.2.category = 2) then aS2 i v t else q :: aS2 i v t
theorem aS2_mem {i : Nat} {v : Value} : ∀ {lv : List (Nat × Value)} {x : Nat × Value}, x ∈ aS2 i v lv → x = (i, v) ∨ (x ∈ lv ∧ ¬ x.1 = i ∧ ¬ x.1 = i + 1 ∧ ¬ (x.1 + 1 = i ∧ x.2.category = 2))
  | [], x, h => by
    unfold aS2 at h
    exact Or.inl (List.mem_singleton.mp h)
  | q :: t, x, h => by
    unfold aS2 at h
    by_cases e : q.1 = i
    · rw [if_pos e] at h
      rcases List.mem_cons.mp h with h | h
      · exact Or.inl h
      · obtain ⟨h1, h2⟩ := List.mem_filter.mp h
        simp only [Bool.and_eq_true, Bool.not_eq_true', beq_eq_false_iff_ne, ne_eq, Bool.and_eq_false_iff] at h2
        refine Or.inr ⟨List.mem_cons_of_mem _ h1, h2.1, h2.2.1, fun z => ?_⟩
        rcases h2.2.2 with w | w
        · exact w z.1
        · exact w z.2
    · rw [if_neg e] at h
      by_cases e2 : q.1 = i + 1 ∨ (q.1 + 1 = i ∧ q.2.category = 2)
      · rw [if_pos e2] at h
        rcases aS2_mem h with h | ⟨h1, h2⟩
        · exact Or.inl h
        · exact Or.inr ⟨List.mem_cons_of_mem _ h1, h2⟩
      · rw [if_neg e2] at h
        rcases List.mem_cons.mp h with h | h
        · subst h
          exact Or.inr ⟨List.mem_cons_self, e, fun z => e2 (Or.inl z), fun z => e2 (Or.inr z)⟩
        · rcases aS2_mem h with h | ⟨h1, h2⟩
          · exact Or.inl h
          · exact Or.inr ⟨List.mem_cons_of_mem _ h1, h2⟩
theorem aLv_s1 {ls : Array Slot} {n i : Nat} {ad : Nat → Nat} {lv : List (Nat × Value)} {v : Value} (h : lv_has ls n ((i, aV ad v) :: (aLv ad lv).filter (fun q => !(q.1 == i) && !(q.1 + 1 == i && q.2.category == 2)))) : lv_has ls n (aLv ad (aS1 i v lv)) := by
  refine ⟨h.1, h.2.1, fun q hq => h.2.2 q ?_⟩
  obtain ⟨x, hx, rfl⟩ := List.mem_map.mp hq
  rcases aS1_mem hx with rfl | ⟨h1, h2, h3⟩
  · exact List.mem_cons_self
  · refine List.mem_cons_of_mem _ (List.mem_filter.mpr ⟨List.mem_map.mpr ⟨x, h1, rfl⟩, ?_⟩)
    simp only [aV_cat]
    by_cases e : x.1 + 1 = i
    · have : ¬ x.2.category = 2 := fun z => h3 ⟨e, z⟩
      simp [h2, this]
    · simp [h2, e]
theorem aLv_s2 {ls : Array Slot} {n i : Nat} {ad : Nat → Nat} {lv : List (Nat × Value)} {v : Value} (h : lv_has ls n ((i, aV ad v) :: (aLv ad lv).filter (fun q => !(q.1 == i) && (!(q.1 == i + 1) && !(q.1 + 1 == i && q.2.category == 2))))) : lv_has ls n (aLv ad (aS2 i v lv)) := by
  refine ⟨h.1, h.2.1, fun q hq => h.2.2 q ?_⟩
  obtain ⟨x, hx, rfl⟩ := List.mem_map.mp hq
  rcases aS2_mem hx with rfl | ⟨h1, h2, h3, h4⟩
  · exact List.mem_cons_self
  · refine List.mem_cons_of_mem _ (List.mem_filter.mpr ⟨List.mem_map.mpr ⟨x, h1, rfl⟩, ?_⟩)
    simp only [aV_cat]
    by_cases e : x.1 + 1 = i
    · have : ¬ x.2.category = 2 := fun z => h4 ⟨e, z⟩
      simp [h2, h3, this]
    · simp [h2, h3, e]
section AROW
variable {md : aMd} {E : aE} {h : aH} {pc : Nat} {lv : List (Nat × Value)} {st : List Value} {bc bs : Nat} {Q : Option Value → aH → Prop}
/-- fewer locals, in any order -/
theorem aX_lv {lv' : List (Nat × Value)} (ks : List Nat) (hs : lv_pick lv ks = lv') (k : aX md E h pc lv' st bc bs Q) : aX md E h pc lv st bc bs Q := by
  intro p l e s m args below meth c G ad A H locs cells slots ls Qm C hR hl h1 h2 F
  refine k p l e s m args below meth c G ad A H locs cells slots ls Qm C hR ⟨hl.1, hl.2.1, fun q hq => hl.2.2 q ?_⟩ h1 h2 F
  obtain ⟨x, hx, rfl⟩ := List.mem_map.mp hq
  rw [← hs] at hx
  obtain ⟨j, -, hj⟩ := List.mem_filterMap.mp hx
  exact List.mem_map.mpr ⟨x, List.mem_of_getElem? hj, rfl⟩
/-- a value on the stack gets a name -/
theorem aX_topi {x : Int32} (k : ∀ y : Int32, y = x → aX md E h pc lv (.int y :: st) bc bs Q) : aX md E h pc lv (.int x :: st) bc bs Q := k x rfl
theorem aX_topl {x : Int64} (k : ∀ y : Int64, y = x → aX md E h pc lv (.long y :: st) bc bs Q) : aX md E h pc lv (.long x :: st) bc bs Q := k x rfl
theorem aX_heap {h' : aH} (e : h = h') (k : aX md E h' pc lv st bc bs Q) : aX md E h pc lv st bc bs Q := e ▸ k
theorem aX_st {st' : List Value} (e : st = st') (k : aX md E h pc lv st' bc bs Q) : aX md E h pc lv st bc bs Q := e ▸ k
theorem aX_b {bc' bs' : Nat} (e1 : bc' ≤ bc) (e2 : bs' ≤ bs) (k : aX md E h pc lv st bc' bs' Q) : aX md E h pc lv st bc bs Q := by
  intro p l e s m args below meth c G ad A H locs cells slots ls Qm C hR hl h1 h2 F
  exact k p l e s m args below meth c G ad A H locs cells slots ls Qm C hR hl (by omega) (by omega) F
theorem aX_iconst {n : Int} {v : Int32} (hd : decode md.2.1 pc = .ok (.iconst n, 1)) (hv : Int32.ofInt n = v) (k : aX md E h (pc + 1) lv (.int v :: st) bc bs Q) : aX md E h pc lv (st) bc bs Q := by
  intro p l e s m args below meth c G ad A H locs cells slots ls Qm C hR hl h1 h2 F
  exact lv_iconst C.1 C.2.1 hd hv (k p l e s m args below meth c G ad A H locs cells slots ls Qm C hR hl h1 h2 F)
theorem aX_bipush {n : Int} {v : Int32} (hd : decode md.2.1 pc = .ok (.bipush n, 2)) (hv : (Int8.ofInt n).toInt32 = v) (k : aX md E h (pc + 2) lv (.int v :: st) bc bs Q) : aX md E h pc lv (st) bc bs Q := by
  intro p l e s m args below meth c G ad A H locs cells slots ls Qm C hR hl h1 h2 F
  exact lv_bipush C.1 C.2.1 hd hv (k p l e s m args below meth c G ad A H locs cells slots ls Qm C hR hl h1 h2 F)
theorem aX_sipush {n : Int} {v : Int32} (hd : decode md.2.1 pc = .ok (.sipush n, 3)) (hv : (Int16.ofInt n).toInt32 = v) (k : aX md E h (pc + 3) lv (.int v :: st) bc bs Q) : aX md E h pc lv (st) bc bs Q := by
  intro p l e s m args below meth c G ad A H locs cells slots ls Qm C hR hl h1 h2 F
  exact lv_sipush C.1 C.2.1 hd hv (k p l e s m args below meth c G ad A H locs cells slots ls Qm C hR hl h1 h2 F)
theorem aX_lconst {n : Fin 2} {v : Int64} (hd : decode md.2.1 pc = .ok (.lconst n, 1)) (hv : Int64.ofNat (n : Nat) = v) (k : aX md E h (pc + 1) lv (.long v :: st) bc bs Q) : aX md E h pc lv (st) bc bs Q := by
  intro p l e s m args below meth c G ad A H locs cells slots ls Qm C hR hl h1 h2 F
  exact lv_lconst C.1 C.2.1 hd hv (k p l e s m args below meth c G ad A H locs cells slots ls Qm C hR hl h1 h2 F)
theorem aX_iload_n {n : Fin 4} {x : Int32} (hd : decode md.2.1 pc = .ok (.iload_n n, 1)) (hg : aGet n.val lv = some (.int x)) (k : aX md E h (pc + 1) lv (.int x :: st) bc bs Q) : aX md E h pc lv (st) bc bs Q := by
  intro p l e s m args below meth c G ad A H locs cells slots ls Qm C hR hl h1 h2 F
  exact lv_iload_n C.1 C.2.1 hd rfl (aLv_get hl hg) (k p l e s m args below meth c G ad A H locs cells slots ls Qm C hR hl h1 h2 F)
theorem aX_iload {i : Nat} {x : Int32} (hd : decode md.2.1 pc = .ok (.iload i, 2)) (hg : aGet i lv = some (.int x)) (k : aX md E h (pc + 2) lv (.int x :: st) bc bs Q) : aX md E h pc lv (st) bc bs Q := by
  intro p l e s m args below meth c G ad A H locs cells slots ls Qm C hR hl h1 h2 F
  exact lv_iload C.1 C.2.1 hd (aLv_get hl hg) (k p l e s m args below meth c G ad A H locs cells slots ls Qm C hR hl h1 h2 F)
theorem aX_lload_n {n : Fin 4} {x : Int64} (hd : decode md.2.1 pc = .ok (.lload_n n, 1)) (hg : aGet n.val lv = some (.long x)) (k : aX md E h (pc + 1) lv (.long x :: st) bc bs Q) : aX md E h pc lv (st) bc bs Q := by
  intro p l e s m args below meth c G ad A H locs cells slots ls Qm C hR hl h1 h2 F
  exact lv_lload_n C.1 C.2.1 hd rfl (aLv_get hl hg) (k p l e s m args below meth c G ad A H locs cells slots ls Qm C hR hl h1 h2 F)
theorem aX_lload {i : Nat} {x : Int64} (hd : decode md.2.1 pc = .ok (.lload i, 2)) (hg : aGet i lv = some (.long x)) (k : aX md E h (pc + 2) lv (.long x :: st) bc bs Q) : aX md E h pc lv (st) bc bs Q := by
  intro p l e s m args below meth c G ad A H locs cells slots ls Qm C hR hl h1 h2 F
  exact lv_lload C.1 C.2.1 hd (aLv_get hl hg) (k p l e s m args below meth c G ad A H locs cells slots ls Qm C hR hl h1 h2 F)
theorem aX_aload_n {n : Fin 4} {x : Nat} (hd : decode md.2.1 pc = .ok (.aload_n n, 1)) (hg : aGet n.val lv = some (.ref x)) (k : aX md E h (pc + 1) lv (.ref x :: st) bc bs Q) : aX md E h pc lv (st) bc bs Q := by
  intro p l e s m args below meth c G ad A H locs cells slots ls Qm C hR hl h1 h2 F
  exact lv_aload_n C.1 C.2.1 hd rfl (aLv_get hl hg) (k p l e s m args below meth c G ad A H locs cells slots ls Qm C hR hl h1 h2 F)
theorem aX_aload {i : Nat} {x : Nat} (hd : decode md.2.1 pc = .ok (.aload i, 2)) (hg : aGet i lv = some (.ref x)) (k : aX md E h (pc + 2) lv (.ref x :: st) bc bs Q) : aX md E h pc lv (st) bc bs Q := by
  intro p l e s m args below meth c G ad A H locs cells slots ls Qm C hR hl h1 h2 F
  exact lv_aload C.1 C.2.1 hd (aLv_get hl hg) (k p l e s m args below meth c G ad A H locs cells slots ls Qm C hR hl h1 h2 F)
theorem aX_istore_n {n : Fin 4} {x : Int32} {lv' : List (Nat × Value)} (hd : decode md.2.1 pc = .ok (.istore_n n, 1)) (hn : n.val < md.2.2.1) (hs : aS1 n.val (.int x) lv = lv') (k : aX md E h (pc + 1) lv' st bc bs Q) : aX md E h pc lv (.int x :: st) bc bs Q := by
  subst hs
  intro p l e s m args below meth c G ad A H locs cells slots ls Qm C hR hl h1 h2 F
  exact lv_istore_n C.1 C.2.1 hd rfl hl hn rfl (fun ls' hl' => k p l e s m args below meth c G ad A H locs cells slots ls' Qm C hR (aLv_s1 (v := .int x) hl') h1 h2 F)
theorem aX_istore {i : Nat} {x : Int32} {lv' : List (Nat × Value)} (hd : decode md.2.1 pc = .ok (.istore i, 2)) (hn : i < md.2.2.1) (hs : aS1 i (.int x) lv = lv') (k : aX md E h (pc + 2) lv' st bc bs Q) : aX md E h pc lv (.int x :: st) bc bs Q := by
  subst hs
  intro p l e s m args below meth c G ad A H locs cells slots ls Qm C hR hl h1 h2 F
  exact lv_istore C.1 C.2.1 hd hl hn rfl (fun ls' hl' => k p l e s m args below meth c G ad A H locs cells slots ls' Qm C hR (aLv_s1 (v := .int x) hl') h1 h2 F)
theorem aX_lstore_n {n : Fin 4} {x : Int64} {lv' : List (Nat × Value)} (hd : decode md.2.1 pc = .ok (.lstore_n n, 1)) (hn : n.val + 1 < md.2.2.1) (hs : aS2 n.val (.long x) lv = lv') (k : aX md E h (pc + 1) lv' st bc bs Q) : aX md E h pc lv (.long x :: st) bc bs Q := by
  subst hs
  intro p l e s m args below meth c G ad A H locs cells slots ls Qm C hR hl h1 h2 F
  exact lv_lstore_n C.1 C.2.1 hd rfl hl hn rfl (fun ls' hl' => k p l e s m args below meth c G ad A H locs cells slots ls' Qm C hR (aLv_s2 (v := .long x) hl') h1 h2 F)
theorem aX_lstore {i : Nat} {x : Int64} {lv' : List (Nat × Value)} (hd : decode md.2.1 pc = .ok (.lstore i, 2)) (hn : i + 1 < md.2.2.1) (hs : aS2 i (.long x) lv = lv') (k : aX md E h (pc + 2) lv' st bc bs Q) : aX md E h pc lv (.long x :: st) bc bs Q := by
  subst hs
  intro p l e s m args below meth c G ad A H locs cells slots ls Qm C hR hl h1 h2 F
  exact lv_lstore C.1 C.2.1 hd hl hn rfl (fun ls' hl' => k p l e s m args below meth c G ad A H locs cells slots ls' Qm C hR (aLv_s2 (v := .long x) hl') h1 h2 F)
theorem aX_astore_n {n : Fin 4} {x : Nat} {lv' : List (Nat × Value)} (hd : decode md.2.1 pc = .ok (.astore_n n, 1)) (hn : n.val < md.2.2.1) (hs : aS1 n.val (.ref x) lv = lv') (k : aX md E h (pc + 1) lv' st bc bs Q) : aX md E h pc lv (.ref x :: st) bc bs Q := by
  subst hs
  intro p l e s m args below meth c G ad A H locs cells slots ls Qm C hR hl h1 h2 F
  exact lv_astore_n C.1 C.2.1 hd rfl hl hn rfl (fun ls' hl' => k p l e s m args below meth c G ad A H locs cells slots ls' Qm C hR (aLv_s1 (v := .ref x) hl') h1 h2 F)
theorem aX_astore {i : Nat} {x : Nat} {lv' : List (Nat × Value)} (hd : decode md.2.1 pc = .ok (.astore i, 2)) (hn : i < md.2.2.1) (hs : aS1 i (.ref x) lv = lv') (k : aX md E h (pc + 2) lv' st bc bs Q) : aX md E h pc lv (.ref x :: st) bc bs Q := by
  subst hs
  intro p l e s m args below meth c G ad A H locs cells slots ls Qm C hR hl h1 h2 F
  exact lv_astore C.1 C.2.1 hd hl hn rfl (fun ls' hl' => k p l e s m args below meth c G ad A H locs cells slots ls' Qm C hR (aLv_s1 (v := .ref x) hl') h1 h2 F)
theorem aLv_pos {lv : List (Nat × Value)} {i : Nat} {v : Value} {ad : Nat → Nat} (h : aGet i lv = some v) : ∃ k : Nat, (aLv ad lv)[k]? = some (i, aV ad v) :=
  List.getElem?_of_mem (List.mem_map.mpr ⟨(i, v), aGet_mem h, rfl⟩)
theorem aX_iinc {i : Nat} {n : Int} {x v : Int32} {lv' : List (Nat × Value)} (hd : decode md.2.1 pc = .ok (.iinc i n, 3)) (hg : aGet i lv = some (.int x)) (hv : x + Int32.ofInt n = v) (hn : i < md.2.2.1) (hs : aS1 i (.int v) lv = lv') (k : aX md E h (pc + 3) lv' st bc bs Q) : aX md E h pc lv st bc bs Q := by
  subst hs
  intro p l e s m args below meth c G ad A H locs cells slots ls Qm C hR hl h1 h2 F
  obtain ⟨j, hj⟩ := aLv_pos (ad := ad) hg
  exact lv_iinc C.1 C.2.1 hd hl hj hv hn rfl (fun ls' hl' => k p l e s m args below meth c G ad A H locs cells slots ls' Qm C hR (aLv_s1 (v := .int v) hl') h1 h2 F)
theorem aX_iadd {x y : Int32} (hd : decode md.2.1 pc = .ok (.iadd, 1)) (k : aX md E h (pc + 1) lv (.int (x + y) :: st) bc bs Q) : aX md E h pc lv (.int y :: .int x :: st) bc bs Q := by
  intro p l e s m args below meth c G ad A H locs cells slots ls Qm C hR hl h1 h2 F
  exact lv_iadd C.1 C.2.1 hd (k p l e s m args below meth c G ad A H locs cells slots ls Qm C hR hl h1 h2 F)
theorem aX_isub {x y : Int32} (hd : decode md.2.1 pc = .ok (.isub, 1)) (k : aX md E h (pc + 1) lv (.int (x - y) :: st) bc bs Q) : aX md E h pc lv (.int y :: .int x :: st) bc bs Q := by
  intro p l e s m args below meth c G ad A H locs cells slots ls Qm C hR hl h1 h2 F
  exact lv_isub C.1 C.2.1 hd (k p l e s m args below meth c G ad A H locs cells slots ls Qm C hR hl h1 h2 F)
theorem aX_imul {x y : Int32} (hd : decode md.2.1 pc = .ok (.imul, 1)) (k : aX md E h (pc + 1) lv (.int (x * y) :: st) bc bs Q) : aX md E h pc lv (.int y :: .int x :: st) bc bs Q := by
  intro p l e s m args below meth c G ad A H locs cells slots ls Qm C hR hl h1 h2 F
  exact lv_imul C.1 C.2.1 hd (k p l e s m args below meth c G ad A H locs cells slots ls Qm C hR hl h1 h2 F)
theorem aX_iand {x y : Int32} (hd : decode md.2.1 pc = .ok (.iand, 1)) (k : aX md E h (pc + 1) lv (.int (x &&& y) :: st) bc bs Q) : aX md E h pc lv (.int y :: .int x :: st) bc bs Q := by
  intro p l e s m args below meth c G ad A H locs cells slots ls Qm C hR hl h1 h2 F
  exact lv_iand C.1 C.2.1 hd (k p l e s m args below meth c G ad A H locs cells slots ls Qm C hR hl h1 h2 F)
theorem aX_ior {x y : Int32} (hd : decode md.2.1 pc = .ok (.ior, 1)) (k : aX md E h (pc + 1) lv (.int (x ||| y) :: st) bc bs Q) : aX md E h pc lv (.int y :: .int x :: st) bc bs Q := by
  intro p l e s m args below meth c G ad A H locs cells slots ls Qm C hR hl h1 h2 F
  exact lv_ior C.1 C.2.1 hd (k p l e s m args below meth c G ad A H locs cells slots ls Qm C hR hl h1 h2 F)
theorem aX_ixor {x y : Int32} (hd : decode md.2.1 pc = .ok (.ixor, 1)) (k : aX md E h (pc + 1) lv (.int (x ^^^ y) :: st) bc bs Q) : aX md E h pc lv (.int y :: .int x :: st) bc bs Q := by
  intro p l e s m args below meth c G ad A H locs cells slots ls Qm C hR hl h1 h2 F
  exact lv_ixor C.1 C.2.1 hd (k p l e s m args below meth c G ad A H locs cells slots ls Qm C hR hl h1 h2 F)
theorem aX_ishl {x y : Int32} (hd : decode md.2.1 pc = .ok (.ishl, 1)) (k : aX md E h (pc + 1) lv (.int (x <<< (y &&& 31)) :: st) bc bs Q) : aX md E h pc lv (.int y :: .int x :: st) bc bs Q := by
  intro p l e s m args below meth c G ad A H locs cells slots ls Qm C hR hl h1 h2 F
  exact lv_ishl C.1 C.2.1 hd (k p l e s m args below meth c G ad A H locs cells slots ls Qm C hR hl h1 h2 F)
theorem aX_ishr {x y : Int32} (hd : decode md.2.1 pc = .ok (.ishr, 1)) (k : aX md E h (pc + 1) lv (.int (x >>> (y &&& 31)) :: st) bc bs Q) : aX md E h pc lv (.int y :: .int x :: st) bc bs Q := by
  intro p l e s m args below meth c G ad A H locs cells slots ls Qm C hR hl h1 h2 F
  exact lv_ishr C.1 C.2.1 hd (k p l e s m args below meth c G ad A H locs cells slots ls Qm C hR hl h1 h2 F)
theorem aX_idiv {x y : Int32} (hd : decode md.2.1 pc = .ok (.idiv, 1)) (hne : ¬ y = 0) (k : aX md E h (pc + 1) lv (.int (x / y) :: st) bc bs Q) : aX md E h pc lv (.int y :: .int x :: st) bc bs Q := by
  intro p l e s m args below meth c G ad A H locs cells slots ls Qm C hR hl h1 h2 F
  exact lv_idiv C.1 C.2.1 hd hne (k p l e s m args below meth c G ad A H locs cells slots ls Qm C hR hl h1 h2 F)
theorem aX_irem {x y : Int32} (hd : decode md.2.1 pc = .ok (.irem, 1)) (hne : ¬ y = 0) (k : aX md E h (pc + 1) lv (.int (x - x / y * y) :: st) bc bs Q) : aX md E h pc lv (.int y :: .int x :: st) bc bs Q := by
  intro p l e s m args below meth c G ad A H locs cells slots ls Qm C hR hl h1 h2 F
  exact lv_irem C.1 C.2.1 hd hne (k p l e s m args below meth c G ad A H locs cells slots ls Qm C hR hl h1 h2 F)
theorem aX_ineg {x : Int32} (hd : decode md.2.1 pc = .ok (.ineg, 1)) (k : aX md E h (pc + 1) lv (.int (-x) :: st) bc bs Q) : aX md E h pc lv (.int x :: st) bc bs Q := by
  intro p l e s m args below meth c G ad A H locs cells slots ls Qm C hR hl h1 h2 F
  exact lv_ineg C.1 C.2.1 hd (k p l e s m args below meth c G ad A H locs cells slots ls Qm C hR hl h1 h2 F)
theorem aX_ladd {x y : Int64} (hd : decode md.2.1 pc = .ok (.ladd, 1)) (k : aX md E h (pc + 1) lv (.long (x + y) :: st) bc bs Q) : aX md E h pc lv (.long y :: .long x :: st) bc bs Q := by
  intro p l e s m args below meth c G ad A H locs cells slots ls Qm C hR hl h1 h2 F
  exact lv_ladd C.1 C.2.1 hd (k p l e s m args below meth c G ad A H locs cells slots ls Qm C hR hl h1 h2 F)
theorem aX_lsub {x y : Int64} (hd : decode md.2.1 pc = .ok (.lsub, 1)) (k : aX md E h (pc + 1) lv (.long (x - y) :: st) bc bs Q) : aX md E h pc lv (.long y :: .long x :: st) bc bs Q := by
  intro p l e s m args below meth c G ad A H locs cells slots ls Qm C hR hl h1 h2 F
  exact lv_lsub C.1 C.2.1 hd (k p l e s m args below meth c G ad A H locs cells slots ls Qm C hR hl h1 h2 F)
theorem aX_lmul {x y : Int64} (hd : decode md.2.1 pc = .ok (.lmul, 1)) (k : aX md E h (pc + 1) lv (.long (x * y) :: st) bc bs Q) : aX md E h pc lv (.long y :: .long x :: st) bc bs Q := by
  intro p l e s m args below meth c G ad A H locs cells slots ls Qm C hR hl h1 h2 F
  exact lv_lmul C.1 C.2.1 hd (k p l e s m args below meth c G ad A H locs cells slots ls Qm C hR hl h1 h2 F)
theorem aX_land {x y : Int64} (hd : decode md.2.1 pc = .ok (.land, 1)) (k : aX md E h (pc + 1) lv (.long (x &&& y) :: st) bc bs Q) : aX md E h pc lv (.long y :: .long x :: st) bc bs Q := by
  intro p l e s m args below meth c G ad A H locs cells slots ls Qm C hR hl h1 h2 F
  exact lv_land C.1 C.2.1 hd (k p l e s m args below meth c G ad A H locs cells slots ls Qm C hR hl h1 h2 F)
theorem aX_lor {x y : Int64} (hd : decode md.2.1 pc = .ok (.lor, 1)) (k : aX md E h (pc + 1) lv (.long (x ||| y) :: st) bc bs Q) : aX md E h pc lv (.long y :: .long x :: st) bc bs Q := by
  intro p l e s m args below meth c G ad A H locs cells slots ls Qm C hR hl h1 h2 F
  exact lv_lor C.1 C.2.1 hd (k p l e s m args below meth c G ad A H locs cells slots ls Qm C hR hl h1 h2 F)
theorem aX_lxor {x y : Int64} (hd : decode md.2.1 pc = .ok (.lxor, 1)) (k : aX md E h (pc + 1) lv (.long (x ^^^ y) :: st) bc bs Q) : aX md E h pc lv (.long y :: .long x :: st) bc bs Q := by
  intro p l e s m args below meth c G ad A H locs cells slots ls Qm C hR hl h1 h2 F
  exact lv_lxor C.1 C.2.1 hd (k p l e s m args below meth c G ad A H locs cells slots ls Qm C hR hl h1 h2 F)
theorem aX_ldiv {x y : Int64} (hd : decode md.2.1 pc = .ok (.ldiv, 1)) (hne : ¬ y = 0) (k : aX md E h (pc + 1) lv (.long (x / y) :: st) bc bs Q) : aX md E h pc lv (.long y :: .long x :: st) bc bs Q := by
  intro p l e s m args below meth c G ad A H locs cells slots ls Qm C hR hl h1 h2 F
  exact lv_ldiv C.1 C.2.1 hd hne (k p l e s m args below meth c G ad A H locs cells slots ls Qm C hR hl h1 h2 F)
theorem aX_lrem {x y : Int64} (hd : decode md.2.1 pc = .ok (.lrem, 1)) (hne : ¬ y = 0) (k : aX md E h (pc + 1) lv (.long (x - x / y * y) :: st) bc bs Q) : aX md E h pc lv (.long y :: .long x :: st) bc bs Q := by
  intro p l e s m args below meth c G ad A H locs cells slots ls Qm C hR hl h1 h2 F
  exact lv_lrem C.1 C.2.1 hd hne (k p l e s m args below meth c G ad A H locs cells slots ls Qm C hR hl h1 h2 F)
theorem aX_i2l {x : Int32} (hd : decode md.2.1 pc = .ok (.i2l, 1)) (k : aX md E h (pc + 1) lv (.long x.toInt64 :: st) bc bs Q) : aX md E h pc lv (.int x :: st) bc bs Q := by
  intro p l e s m args below meth c G ad A H locs cells slots ls Qm C hR hl h1 h2 F
  exact lv_i2l C.1 C.2.1 hd rfl (k p l e s m args below meth c G ad A H locs cells slots ls Qm C hR hl h1 h2 F)
theorem aX_l2i {x : Int64} (hd : decode md.2.1 pc = .ok (.l2i, 1)) (k : aX md E h (pc + 1) lv (.int x.toInt32 :: st) bc bs Q) : aX md E h pc lv (.long x :: st) bc bs Q := by
  intro p l e s m args below meth c G ad A H locs cells slots ls Qm C hR hl h1 h2 F
  exact lv_l2i C.1 C.2.1 hd rfl (k p l e s m args below meth c G ad A H locs cells slots ls Qm C hR hl h1 h2 F)
theorem aX_i2b {x : Int32} (hd : decode md.2.1 pc = .ok (.i2b, 1)) (k : aX md E h (pc + 1) lv (.int x.toInt8.toInt32 :: st) bc bs Q) : aX md E h pc lv (.int x :: st) bc bs Q := by
  intro p l e s m args below meth c G ad A H locs cells slots ls Qm C hR hl h1 h2 F
  exact lv_i2b C.1 C.2.1 hd rfl (k p l e s m args below meth c G ad A H locs cells slots ls Qm C hR hl h1 h2 F)
theorem aX_iushr {x y : Int32} (hd : decode md.2.1 pc = .ok (.iushr, 1)) (k : aX md E h (pc + 1) lv (.int ((x.toUInt32 >>> (y.toUInt32 &&& Int32.toUInt32 31)).toInt32) :: st) bc bs Q) : aX md E h pc lv (.int y :: .int x :: st) bc bs Q := by
  intro p l e s m args below meth c G ad A H locs cells slots ls Qm C hR hl h1 h2 F
  exact lv_iushr C.1 C.2.1 hd rfl (k p l e s m args below meth c G ad A H locs cells slots ls Qm C hR hl h1 h2 F)
theorem aX_lshl {x : Int64} {y : Int32} (hd : decode md.2.1 pc = .ok (.lshl, 1)) (k : aX md E h (pc + 1) lv (.long (x <<< (y.toInt64 &&& 63)) :: st) bc bs Q) : aX md E h pc lv (.int y :: .long x :: st) bc bs Q := by
  intro p l e s m args below meth c G ad A H locs cells slots ls Qm C hR hl h1 h2 F
  exact lv_lshl C.1 C.2.1 hd rfl (k p l e s m args below meth c G ad A H locs cells slots ls Qm C hR hl h1 h2 F)
theorem aX_lshr {x : Int64} {y : Int32} (hd : decode md.2.1 pc = .ok (.lshr, 1)) (k : aX md E h (pc + 1) lv (.long (x >>> (y.toInt64 &&& 63)) :: st) bc bs Q) : aX md E h pc lv (.int y :: .long x :: st) bc bs Q := by
  intro p l e s m args below meth c G ad A H locs cells slots ls Qm C hR hl h1 h2 F
  exact lv_lshr C.1 C.2.1 hd rfl (k p l e s m args below meth c G ad A H locs cells slots ls Qm C hR hl h1 h2 F)
theorem aX_lcmp {x y : Int64} (hd : decode md.2.1 pc = .ok (.lcmp, 1)) (k : aX md E h (pc + 1) lv (.int (lg_cmp x y) :: st) bc bs Q) : aX md E h pc lv (.long y :: .long x :: st) bc bs Q := by
  intro p l e s m args below meth c G ad A H locs cells slots ls Qm C hR hl h1 h2 F
  exact W.lcmp C.1 C.2.1 hd (k p l e s m args below meth c G ad A H locs cells slots ls Qm C hR hl h1 h2 F)
theorem aX_dup {v : Value} (hd : decode md.2.1 pc = .ok (.dup, 1)) (hc : v.category = 1) (k : aX md E h (pc + 1) lv (v :: v :: st) bc bs Q) : aX md E h pc lv (v :: st) bc bs Q := by
  intro p l e s m args below meth c G ad A H locs cells slots ls Qm C hR hl h1 h2 F
  exact lv_dup C.1 C.2.1 hd ((aV_cat ad v).trans hc) (k p l e s m args below meth c G ad A H locs cells slots ls Qm C hR hl h1 h2 F)
theorem aX_pop {v : Value} (hd : decode md.2.1 pc = .ok (.pop, 1)) (hc : v.category = 1) (k : aX md E h (pc + 1) lv (st) bc bs Q) : aX md E h pc lv (v :: st) bc bs Q := by
  intro p l e s m args below meth c G ad A H locs cells slots ls Qm C hR hl h1 h2 F
  exact lv_pop C.1 C.2.1 hd ((aV_cat ad v).trans hc) (k p l e s m args below meth c G ad A H locs cells slots ls Qm C hR hl h1 h2 F)
theorem aX_dup2_11 {v w : Value} (hd : decode md.2.1 pc = .ok (.dup2, 1)) (hc : v.category = 1) (hc2 : w.category = 1) (k : aX md E h (pc + 1) lv (v :: w :: v :: w :: st) bc bs Q) : aX md E h pc lv (v :: w :: st) bc bs Q := by
  intro p l e s m args below meth c G ad A H locs cells slots ls Qm C hR hl h1 h2 F
  exact lv_dup2_11 C.1 C.2.1 hd ((aV_cat ad v).trans hc) ((aV_cat ad w).trans hc2) (k p l e s m args below meth c G ad A H locs cells slots ls Qm C hR hl h1 h2 F)
theorem aX_dup2_2 {v : Value} (hd : decode md.2.1 pc = .ok (.dup2, 1)) (hc : v.category = 2) (k : aX md E h (pc + 1) lv (v :: v :: st) bc bs Q) : aX md E h pc lv (v :: st) bc bs Q := by
  intro p l e s m args below meth c G ad A H locs cells slots ls Qm C hR hl h1 h2 F
  exact lv_dup2_2 C.1 C.2.1 hd ((aV_cat ad v).trans hc) (k p l e s m args below meth c G ad A H locs cells slots ls Qm C hR hl h1 h2 F)
theorem aX_if_eq {x : Int32} {off : Int} {tgt : Nat} (hd : decode md.2.1 pc = .ok (.ifCond .eq off, 3)) (ht : (pc : Int) + off = (tgt : Int)) (kt : x = 0 → aX md E h tgt lv st bc bs Q) (kf : ¬ x = 0 → aX md E h (pc + 3) lv st bc bs Q) : aX md E h pc lv (.int x :: st) bc bs Q := by
  intro p l e s m args below meth c G ad A H locs cells slots ls Qm C hR hl h1 h2 F
  exact lv_if_eq C.1 C.2.1 hd ht (fun c1 => kt c1 p l e s m args below meth c G ad A H locs cells slots ls Qm C hR hl h1 h2 F) (fun c1 => kf c1 p l e s m args below meth c G ad A H locs cells slots ls Qm C hR hl h1 h2 F)
theorem aX_icmp_eq {x y : Int32} {off : Int} {tgt : Nat} (hd : decode md.2.1 pc = .ok (.if_icmp .eq off, 3)) (ht : (pc : Int) + off = (tgt : Int)) (kt : x = y → aX md E h tgt lv st bc bs Q) (kf : ¬ x = y → aX md E h (pc + 3) lv st bc bs Q) : aX md E h pc lv (.int y :: .int x :: st) bc bs Q := by
  intro p l e s m args below meth c G ad A H locs cells slots ls Qm C hR hl h1 h2 F
  exact lv_icmp_eq C.1 C.2.1 hd ht (fun c1 => kt c1 p l e s m args below meth c G ad A H locs cells slots ls Qm C hR hl h1 h2 F) (fun c1 => kf c1 p l e s m args below meth c G ad A H locs cells slots ls Qm C hR hl h1 h2 F)
theorem aX_if_ne {x : Int32} {off : Int} {tgt : Nat} (hd : decode md.2.1 pc = .ok (.ifCond .ne off, 3)) (ht : (pc : Int) + off = (tgt : Int)) (kt : ¬ x = 0 → aX md E h tgt lv st bc bs Q) (kf : x = 0 → aX md E h (pc + 3) lv st bc bs Q) : aX md E h pc lv (.int x :: st) bc bs Q := by
  intro p l e s m args below meth c G ad A H locs cells slots ls Qm C hR hl h1 h2 F
  exact lv_if_ne C.1 C.2.1 hd ht (fun c1 => kt c1 p l e s m args below meth c G ad A H locs cells slots ls Qm C hR hl h1 h2 F) (fun c1 => kf c1 p l e s m args below meth c G ad A H locs cells slots ls Qm C hR hl h1 h2 F)
theorem aX_icmp_ne {x y : Int32} {off : Int} {tgt : Nat} (hd : decode md.2.1 pc = .ok (.if_icmp .ne off, 3)) (ht : (pc : Int) + off = (tgt : Int)) (kt : ¬ x = y → aX md E h tgt lv st bc bs Q) (kf : x = y → aX md E h (pc + 3) lv st bc bs Q) : aX md E h pc lv (.int y :: .int x :: st) bc bs Q := by
  intro p l e s m args below meth c G ad A H locs cells slots ls Qm C hR hl h1 h2 F
  exact lv_icmp_ne C.1 C.2.1 hd ht (fun c1 => kt c1 p l e s m args below meth c G ad A H locs cells slots ls Qm C hR hl h1 h2 F) (fun c1 => kf c1 p l e s m args below meth c G ad A H locs cells slots ls Qm C hR hl h1 h2 F)
theorem aX_if_lt {x : Int32} {off : Int} {tgt : Nat} (hd : decode md.2.1 pc = .ok (.ifCond .lt off, 3)) (ht : (pc : Int) + off = (tgt : Int)) (kt : x < 0 → aX md E h tgt lv st bc bs Q) (kf : ¬ x < 0 → aX md E h (pc + 3) lv st bc bs Q) : aX md E h pc lv (.int x :: st) bc bs Q := by
  intro p l e s m args below meth c G ad A H locs cells slots ls Qm C hR hl h1 h2 F
  exact lv_if_lt C.1 C.2.1 hd ht (fun c1 => kt c1 p l e s m args below meth c G ad A H locs cells slots ls Qm C hR hl h1 h2 F) (fun c1 => kf c1 p l e s m args below meth c G ad A H locs cells slots ls Qm C hR hl h1 h2 F)
theorem aX_icmp_lt {x y : Int32} {off : Int} {tgt : Nat} (hd : decode md.2.1 pc = .ok (.if_icmp .lt off, 3)) (ht : (pc : Int) + off = (tgt : Int)) (kt : x < y → aX md E h tgt lv st bc bs Q) (kf : ¬ x < y → aX md E h (pc + 3) lv st bc bs Q) : aX md E h pc lv (.int y :: .int x :: st) bc bs Q := by
  intro p l e s m args below meth c G ad A H locs cells slots ls Qm C hR hl h1 h2 F
  exact lv_icmp_lt C.1 C.2.1 hd ht (fun c1 => kt c1 p l e s m args below meth c G ad A H locs cells slots ls Qm C hR hl h1 h2 F) (fun c1 => kf c1 p l e s m args below meth c G ad A H locs cells slots ls Qm C hR hl h1 h2 F)
theorem aX_if_ge {x : Int32} {off : Int} {tgt : Nat} (hd : decode md.2.1 pc = .ok (.ifCond .ge off, 3)) (ht : (pc : Int) + off = (tgt : Int)) (kt : 0 ≤ x → aX md E h tgt lv st bc bs Q) (kf : ¬ 0 ≤ x → aX md E h (pc + 3) lv st bc bs Q) : aX md E h pc lv (.int x :: st) bc bs Q := by
  intro p l e s m args below meth c G ad A H locs cells slots ls Qm C hR hl h1 h2 F
  exact lv_if_ge C.1 C.2.1 hd ht (fun c1 => kt c1 p l e s m args below meth c G ad A H locs cells slots ls Qm C hR hl h1 h2 F) (fun c1 => kf c1 p l e s m args below meth c G ad A H locs cells slots ls Qm C hR hl h1 h2 F)
theorem aX_icmp_ge {x y : Int32} {off : Int} {tgt : Nat} (hd : decode md.2.1 pc = .ok (.if_icmp .ge off, 3)) (ht : (pc : Int) + off = (tgt : Int)) (kt : y ≤ x → aX md E h tgt lv st bc bs Q) (kf : ¬ y ≤ x → aX md E h (pc + 3) lv st bc bs Q) : aX md E h pc lv (.int y :: .int x :: st) bc bs Q := by
  intro p l e s m args below meth c G ad A H locs cells slots ls Qm C hR hl h1 h2 F
  exact lv_icmp_ge C.1 C.2.1 hd ht (fun c1 => kt c1 p l e s m args below meth c G ad A H locs cells slots ls Qm C hR hl h1 h2 F) (fun c1 => kf c1 p l e s m args below meth c G ad A H locs cells slots ls Qm C hR hl h1 h2 F)
theorem aX_if_gt {x : Int32} {off : Int} {tgt : Nat} (hd : decode md.2.1 pc = .ok (.ifCond .gt off, 3)) (ht : (pc : Int) + off = (tgt : Int)) (kt : 0 < x → aX md E h tgt lv st bc bs Q) (kf : ¬ 0 < x → aX md E h (pc + 3) lv st bc bs Q) : aX md E h pc lv (.int x :: st) bc bs Q := by
  intro p l e s m args below meth c G ad A H locs cells slots ls Qm C hR hl h1 h2 F
  exact lv_if_gt C.1 C.2.1 hd ht (fun c1 => kt c1 p l e s m args below meth c G ad A H locs cells slots ls Qm C hR hl h1 h2 F) (fun c1 => kf c1 p l e s m args below meth c G ad A H locs cells slots ls Qm C hR hl h1 h2 F)
theorem aX_icmp_gt {x y : Int32} {off : Int} {tgt : Nat} (hd : decode md.2.1 pc = .ok (.if_icmp .gt off, 3)) (ht : (pc : Int) + off = (tgt : Int)) (kt : y < x → aX md E h tgt lv st bc bs Q) (kf : ¬ y < x → aX md E h (pc + 3) lv st bc bs Q) : aX md E h pc lv (.int y :: .int x :: st) bc bs Q := by
  intro p l e s m args below meth c G ad A H locs cells slots ls Qm C hR hl h1 h2 F
  exact lv_icmp_gt C.1 C.2.1 hd ht (fun c1 => kt c1 p l e s m args below meth c G ad A H locs cells slots ls Qm C hR hl h1 h2 F) (fun c1 => kf c1 p l e s m args below meth c G ad A H locs cells slots ls Qm C hR hl h1 h2 F)
theorem aX_if_le {x : Int32} {off : Int} {tgt : Nat} (hd : decode md.2.1 pc = .ok (.ifCond .le off, 3)) (ht : (pc : Int) + off = (tgt : Int)) (kt : x ≤ 0 → aX md E h tgt lv st bc bs Q) (kf : ¬ x ≤ 0 → aX md E h (pc + 3) lv st bc bs Q) : aX md E h pc lv (.int x :: st) bc bs Q := by
  intro p l e s m args below meth c G ad A H locs cells slots ls Qm C hR hl h1 h2 F
  exact lv_if_le C.1 C.2.1 hd ht (fun c1 => kt c1 p l e s m args below meth c G ad A H locs cells slots ls Qm C hR hl h1 h2 F) (fun c1 => kf c1 p l e s m args below meth c G ad A H locs cells slots ls Qm C hR hl h1 h2 F)
theorem aX_icmp_le {x y : Int32} {off : Int} {tgt : Nat} (hd : decode md.2.1 pc = .ok (.if_icmp .le off, 3)) (ht : (pc : Int) + off = (tgt : Int)) (kt : x ≤ y → aX md E h tgt lv st bc bs Q) (kf : ¬ x ≤ y → aX md E h (pc + 3) lv st bc bs Q) : aX md E h pc lv (.int y :: .int x :: st) bc bs Q := by
  intro p l e s m args below meth c G ad A H locs cells slots ls Qm C hR hl h1 h2 F
  exact lv_icmp_le C.1 C.2.1 hd ht (fun c1 => kt c1 p l e s m args below meth c G ad A H locs cells slots ls Qm C hR hl h1 h2 F) (fun c1 => kf c1 p l e s m args below meth c G ad A H locs cells slots ls Qm C hR hl h1 h2 F)
theorem aX_goto {off : Int} {tgt : Nat} (hd : decode md.2.1 pc = .ok (.goto off, 3)) (ht : (pc : Int) + off = (tgt : Int)) (k : aX md E h tgt lv st bc bs Q) : aX md E h pc lv st bc bs Q := by
  intro p l e s m args below meth c G ad A H locs cells slots ls Qm C hR hl h1 h2 F
  exact lv_goto C.1 C.2.1 hd ht (k p l e s m args below meth c G ad A H locs cells slots ls Qm C hR hl h1 h2 F)
theorem aX_tableIn {dflt lo hi : Int} {offs : Array Int} {len : Nat} {x : Int32} {off : Int} {tgt : Nat} (hd : decode md.2.1 pc = .ok (.tableswitch dflt lo hi offs, len)) (q1 : ¬ x.toInt < lo) (q2 : ¬ hi < x.toInt) (ho : offs[(x.toInt - lo).toNat]? = some off) (ht : (pc : Int) + off = (tgt : Int)) (k : aX md E h tgt lv st bc bs Q) : aX md E h pc lv (.int x :: st) bc bs Q := by
  intro p l e s m args below meth c G ad A H locs cells slots ls Qm C hR hl h1 h2 F
  exact lv_tableIn C.1 C.2.1 hd q1 q2 ho ht (k p l e s m args below meth c G ad A H locs cells slots ls Qm C hR hl h1 h2 F)
theorem aX_tableOut {dflt lo hi : Int} {offs : Array Int} {len : Nat} {x : Int32} {tgt : Nat} (hd : decode md.2.1 pc = .ok (.tableswitch dflt lo hi offs, len)) (q1 : x.toInt < lo ∨ hi < x.toInt) (ht : (pc : Int) + dflt = (tgt : Int)) (k : aX md E h tgt lv st bc bs Q) : aX md E h pc lv (.int x :: st) bc bs Q := by
  intro p l e s m args below meth c G ad A H locs cells slots ls Qm C hR hl h1 h2 F
  exact lv_tableOut C.1 C.2.1 hd q1 ht (k p l e s m args below meth c G ad A H locs cells slots ls Qm C hR hl h1 h2 F)
theorem aX_ldc {idx : Nat} {v : Int32} (hd : decode md.2.1 pc = .ok (.ldc idx, 2)) (hw : Cond.constant md.1.cls idx v ∈ aTb) (k : aX md E h (pc + 2) lv (.int v :: st) bc bs Q) : aX md E h pc lv st bc bs Q := by
  intro p l e s m args below meth c G ad A H locs cells slots ls Qm C hR hl h1 h2 F
  exact lv_ldc C.1 C.2.1 C.2.2.2.1 (C.2.2.2.2.1 _ hw) hd (k p l e s m args below meth c G ad A H locs cells slots ls Qm C hR hl h1 h2 F)
theorem aX_ldcw {idx : Nat} {v : Int32} (hd : decode md.2.1 pc = .ok (.ldc_w idx, 3)) (hw : Cond.constant md.1.cls idx v ∈ aTb) (k : aX md E h (pc + 3) lv (.int v :: st) bc bs Q) : aX md E h pc lv st bc bs Q := by
  intro p l e s m args below meth c G ad A H locs cells slots ls Qm C hR hl h1 h2 F
  exact lv_ldcw C.1 C.2.1 C.2.2.2.1 (C.2.2.2.2.1 _ hw) hd (k p l e s m args below meth c G ad A H locs cells slots ls Qm C hR hl h1 h2 F)
theorem aX_ldc2 {idx : Nat} {v : Int64} (hd : decode md.2.1 pc = .ok (.ldc2_w idx, 3)) (hw : Cond.constantLong md.1.cls idx v ∈ aTb) (k : aX md E h (pc + 3) lv (.long v :: st) bc bs Q) : aX md E h pc lv st bc bs Q := by
  intro p l e s m args below meth c G ad A H locs cells slots ls Qm C hR hl h1 h2 F
  exact lv_ldc2 C.1 C.2.1 C.2.2.2.1 (C.2.2.2.2.1 _ hw) hd (k p l e s m args below meth c G ad A H locs cells slots ls Qm C hR hl h1 h2 F)
end AROW
