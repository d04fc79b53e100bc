/-! THE ABSTRACT MACHINE: cells by numbers (0..7 are the static arrays and the script, the world's cells from 8 on), their shapes (kind, length), ints, longs, references -/
abbrev aH : Type := List (Nat × Nat) × (Nat → Nat → Int32) × (Nat → Nat → Int64) × (Nat → Nat → Option Nat)
/-- a method: its name, code, locals, return type, room -/
abbrev aMd : Type := MethodName × ByteArray × Nat × Option FieldType × Room
abbrev aG : Type := va_G × (Nat → ClassId)
abbrev aE : Type := List (Nat × (Nat → Int32))
abbrev aTys (G : aG) : List (ClassId × FieldType) := [(G.2 0, .int), (G.2 1, .boolean), (G.2 2, .byte), (G.2 3, .long), (G.2 4, .object "JustMoves$Whole"), (G.2 5, .array .long)]
def aV (ad : Nat → Nat) (v : Value) : Value := match v with
  | .ref k => .ref (ad k)
  | w => w
theorem aV_cat (ad : Nat → Nat) (v : Value) : (aV ad v).category = v.category := by cases v <;> rfl
abbrev aTb : List Cond := lw_tbl.filter goodWord
theorem aTb_in {w : Cond} (h : w ∈ lw_tbl) (g : goodWord w = true) : w ∈ aTb := List.mem_filter.mpr ⟨h, g⟩
def aN (ci : Nat) : Nat := ((vwCl[ci]?).map (fun q => q.2.2)).getD 0
def aFv (ad : Nat → Nat) (h : aH) (t : FieldType) (k f : Nat) : Value := match t with
  | .int => .int (h.2.1 k f)
  | .boolean => .int (h.2.1 k f)
  | .long => .long (h.2.2.1 k f)
  | _ => va_rf ((h.2.2.2 k f).map ad)
def aFs (ad : Nat → Nat) (h : aH) (ci k : Nat) : List Value := (List.range (aN ci)).map (fun f => aFv ad h (aT ci f) k f)
def aEnt (G : aG) (ad : Nat → Nat) (h : aH) (k : Nat) (sn : Nat × Nat) : va_E :=
  if sn.1 < 3 then .inl (G.2 sn.1, sn.2, .inl (h.2.1 k))
  else if sn.1 = 3 then .inl (G.2 3, sn.2, .inr (.inl (h.2.2.1 k)))
  else if sn.1 < 10 then .inl (G.2 sn.1, sn.2, .inr (.inr (.inr (.inr (fun i => (h.2.2.2 k i).map ad)))))
  else .inr (sn.1 - 10, aFs ad h (sn.1 - 10) k)
def aWs (G : aG) (ad : Nat → Nat) (h : aH) : va_W := (List.range h.1.length).map (fun k => (ad (k + 8), aEnt G ad h (k + 8) (h.1.getD k (0, 0))))
def aSh (h : aH) (q : Nat) : Option (Nat × Nat) := if q < 8 then none else h.1[q - 8]?
theorem aSh_spec {h : aH} {q : Nat} {sn : Nat × Nat} (hs : aSh h q = some sn) : 8 ≤ q ∧ h.1[q - 8]? = some sn := by
  unfold aSh at hs
  by_cases hq : q < 8
  · rw [if_pos hq] at hs; cases hs
  · rw [if_neg hq] at hs; exact ⟨by omega, hs⟩
theorem aWs_get {G : aG} {ad : Nat → Nat} {h : aH} {q : Nat} {sn : Nat × Nat} (hs : aSh h q = some sn) : (aWs G ad h)[q - 8]? = some (ad q, aEnt G ad h q sn) := by
  obtain ⟨h8, hg⟩ := aSh_spec hs
  have hl := (List.getElem?_eq_some_iff.mp hg).1
  unfold aWs
  rw [List.getElem?_map, List.getElem?_range hl]
  have e : q - 8 + 8 = q := by omega
  have e2 : h.1.getD (q - 8) (0, 0) = sn := by rw [List.getD_eq_getElem?_getD, hg]; rfl
  simp only [Option.map_some, e, e2]
theorem aWs_inv {G : aG} {ad : Nat → Nat} {h : aH} {k : Nat} {x : Nat × va_E} (hx : (aWs G ad h)[k]? = some x) : k < h.1.length ∧ x = (ad (k + 8), aEnt G ad h (k + 8) (h.1.getD k (0, 0))) := by
  unfold aWs at hx
  rw [List.getElem?_map] at hx
  by_cases hl : k < h.1.length
  · rw [List.getElem?_range hl] at hx
    exact ⟨hl, (Option.some.inj hx).symm⟩
  · rw [List.getElem?_eq_none (by rw [List.length_range]; omega)] at hx
    cases hx
/-- one place of the table is written -/
def aU {α : Type} (f : Nat → Nat → α) (k i : Nat) (v : α) : Nat → Nat → α := fun a b => if a = k then (if b = i then v else f a b) else f a b
theorem aU_s {α : Type} {f : Nat → Nat → α} {k i : Nat} {v : α} : aU f k i v k i = v := by simp [aU]
theorem aU_n {α : Type} {f : Nat → Nat → α} {k i a b : Nat} {v : α} (h : ¬ (a = k ∧ b = i)) : aU f k i v a b = f a b := by
  unfold aU
  by_cases h1 : a = k
  · by_cases h2 : b = i
    · exact absurd ⟨h1, h2⟩ h
    · rw [if_pos h1, if_neg h2]
  · rw [if_neg h1]
theorem aU_o {α : Type} {f : Nat → Nat → α} {k i a : Nat} {v : α} (h : a ≠ k) : aU f k i v a = f a := by funext b; exact aU_n (fun q => h q.1)
/-- a whole row is written -/
def aUr {α : Type} (f : Nat → Nat → α) (k : Nat) (g : Nat → α) : Nat → Nat → α := fun a b => if a = k then g b else f a b
theorem aUr_s {α : Type} {f : Nat → Nat → α} {k : Nat} {g : Nat → α} : aUr f k g k = g := by funext b; simp [aUr]
theorem aUr_o {α : Type} {f : Nat → Nat → α} {k a : Nat} {g : Nat → α} (h : a ≠ k) : aUr f k g a = f a := by funext b; simp [aUr, h]
/-- the table with one cell's entry anew -/
theorem aWs_set {G : aG} {ad : Nat → Nat} {h h' : aH} {q : Nat} {sn : Nat × Nat} {e : va_E} (hs : aSh h q = some sn) (h1 : h'.1 = h.1) (he : aEnt G ad h' q sn = e) (ho : ∀ k, k ≠ q → ∀ z, aEnt G ad h' k z = aEnt G ad h k z) : (aWs G ad h).set (q - 8) (ad q, e) = aWs G ad h' := by
  obtain ⟨h8, hg⟩ := aSh_spec hs
  have hl := (List.getElem?_eq_some_iff.mp hg).1
  apply List.ext_getElem?
  intro k
  by_cases hk : k = q - 8
  · subst hk
    have hs' : aSh h' q = some sn := by unfold aSh; rw [h1, if_neg (by omega)]; exact hg
    rw [List.getElem?_set_self (by unfold aWs; rw [List.length_map, List.length_range]; exact hl), aWs_get hs', he]
  · rw [List.getElem?_set_ne (Ne.symm hk)]
    unfold aWs
    rw [h1, List.getElem?_map, List.getElem?_map]
    by_cases hkl : k < h.1.length
    · rw [List.getElem?_range hkl]
      simp only [Option.map_some]
      rw [ho (k + 8) (by omega)]
    · rw [List.getElem?_eq_none (by rw [List.length_range]; omega)]
      rfl
def aSt : List String := ["FIRST_UP", "FIRST_DOWN", "PRIMES", "LOGS", "FIRST_WEIGHTS", "GREATEST_WEIGHTS", "MODULI"]
/-- what a method's start says of the statics, the classes and the words that aren't good ones -/
def aK (G : aG) (E : aE) (ad : Nat → Nat) (A : Nat → Prop) (s : State) : Prop :=
  va_K G.1 vwCl (aTys G) s ∧ (∀ q : Nat, s.heap.size ≤ q → A q) ∧ E.length ≤ 8 ∧ (∀ (i : Nat) (q : Nat × (Nat → Int32)), E[i]? = some q → va_T .int (ad i) q.1 (fun n => .int (q.2 n)) A s s.heap) ∧ (∀ (i : Nat) (nm : String), aSt[i]? = some nm → va_Z "JustMoves" nm "[I" (.ref (ad i)) A s s.heap) ∧ (∀ w ∈ aNs, va_Nw w s) ∧ va_AO "JustMoves$Whole" s ∧ va_Nw (.arrayOver (.array .long)) s
def aR (G : aG) (ad : Nat → Nat) (h : aH) (A : Nat → Prop) (s : State) (H : Heap) (locs : List Loc) : Prop :=
  va_P G.1 vwCl (aWs G ad h) H ∧ va_D A (aWs G ad h) ∧ va_S A s.heap H locs
def aLe (h : aH) (ad : Nat → Nat) (h' : aH) (ad' : Nat → Nat) : Prop := h.1.length ≤ h'.1.length ∧ (∀ k, k < 8 + h.1.length → ad' k = ad k) ∧ (h'.1.length = h.1.length → ad' = ad)
theorem aLe.rf {h h' : aH} {ad : Nat → Nat} (e : h'.1 = h.1) : aLe h ad h' ad := ⟨by rw [e]; exact Nat.le_refl _, fun _ _ => rfl, fun _ => rfl⟩
theorem aLe.tr {h1 h2 h3 : aH} {a1 a2 a3 : Nat → Nat} (x : aLe h1 a1 h2 a2) (y : aLe h2 a2 h3 a3) : aLe h1 a1 h3 a3 := by
  obtain ⟨x1, x2, x3⟩ := x
  obtain ⟨y1, y2, y3⟩ := y
  refine ⟨by omega, fun k hk => (y2 k (by omega)).trans (x2 k hk), fun e => ?_⟩
  rw [y3 (by omega), x3 (by omega)]
def aCtx (md : aMd) (E : aE) (G : aG) (ad : Nat → Nat) (A : Nat → Prop) (p : Program) (s : State) (m : MethodId) (args : Array Value) (meth : Method) (c : Code) : Prop :=
  p.tables.exec = Jvm.exec ∧ c.code = md.2.1 ∧ c.maxLocals = md.2.2.1 ∧ s.vm.findClass md.1.cls = some m.cls ∧ (∀ w ∈ aTb, w.before args s = true) ∧ (md.1.name = "<init>" → meth.name = "<init>") ∧ aK G E ad A s
def aRet (md : aMd) (pc : Nat) (r : Option Value) : Prop := match r with
  | none => decode md.2.1 pc = .ok (.return_, 1) ∧ md.2.2.2.1 = none
  | some (.int x) => decode md.2.1 pc = .ok (.ireturn, 1) ∧ (md.2.2.2.1 = some .int ∨ (md.2.2.2.1 = some .boolean ∧ (x = 0 ∨ x = 1)))
  | some (.long _) => decode md.2.1 pc = .ok (.lreturn, 1) ∧ md.2.2.2.1 = some .long
  | _ => False
def aFin (md : aMd) (G : aG) (A : Nat → Prop) (p : Program) (l : Launch) (e : Env) (s : State) (m : MethodId) (args : Array Value) (below : List Frame) (meth : Method) (c : Code) (h : aH) (ad : Nat → Nat) (Q : Option Value → aH → Prop) (Qm : State → Prop) : Prop :=
  ∀ (ad' : Nat → Nat) (h' : aH) (r : Option Value) (H : Heap) (locs : List Loc) (cells slots pc : Nat) (ls : Array Slot), aLe h ad h' ad' → aR G ad' h' A s H locs → cells ≤ md.2.2.2.2.cells → slots ≤ md.2.2.2.2.slots → Q r h' → aRet md pc r → W p l e md.2.2.2.2 s m args below meth c H locs cells slots Qm (F0 m pc ls (r.toList.map (aV ad')))
theorem aFin.tr {md : aMd} {G : aG} {A : Nat → Prop} {p : Program} {l : Launch} {e : Env} {s : State} {m : MethodId} {args : Array Value} {below : List Frame} {meth : Method} {c : Code} {h h2 : aH} {ad ad2 : Nat → Nat} {Q : Option Value → aH → Prop} {Qm : State → Prop} (F : aFin md G A p l e s m args below meth c h ad Q Qm) (x : aLe h ad h2 ad2) : aFin md G A p l e s m args below meth c h2 ad2 Q Qm :=
  fun ad' h' r H locs cells slots pc ls y => F ad' h' r H locs cells slots pc ls (x.tr y)
def aLv (ad : Nat → Nat) (lv : List (Nat × Value)) : List (Nat × Value) := lv.map (fun q => (q.1, aV ad q.2))
/-- from here the method returns, and Q holds of its answer and of the heap -/
def aX (md : aMd) (E : aE) (h : aH) (pc : Nat) (lv : List (Nat × Value)) (st : List Value) (bc bs : Nat) (Q : Option Value → aH → Prop) : Prop :=
  ∀ (p : Program) (l : Launch) (e : Env) (s : State) (m : MethodId) (args : Array Value) (below : List Frame) (meth : Method) (c : Code) (G : aG) (ad : Nat → Nat) (A : Nat → Prop) (H : Heap) (locs : List Loc) (cells slots : Nat) (ls : Array Slot) (Qm : State → Prop),
    aCtx md E G ad A p s m args meth c → aR G ad h A s H locs → lv_has ls md.2.2.1 (aLv ad lv) → cells + bc ≤ md.2.2.2.2.cells → slots + bs ≤ md.2.2.2.2.slots → aFin md G A p l e s m args below meth c h ad Q Qm →
    W p l e md.2.2.2.2 s m args below meth c H locs cells slots Qm (F0 m pc ls (st.map (aV ad)))
theorem aX_mono {md : aMd} {E : aE} {h : aH} {pc : Nat} {lv : List (Nat × Value)} {st : List Value} {bc bs : Nat} {Q Q' : Option Value → aH → Prop} (k : aX md E h pc lv st bc bs Q) (i : ∀ r h', Q r h' → Q' r h') : aX md E h pc lv st bc bs Q' := by
  intro p l e s m args below meth c G ad A H locs cells slots ls Qm C hR hl h1 h2 F
  exact k p l e s m args below meth c G ad A H locs cells slots ls Qm C hR hl h1 h2 (fun ad' h' r H locs cells slots pc ls y1 y2 y3 y4 y5 y6 => F ad' h' r H locs cells slots pc ls y1 y2 y3 y4 (i r h' y5) y6)
/-- a return -/
theorem aX_ret {md : aMd} {E : aE} {h : aH} {pc : Nat} {lv : List (Nat × Value)} {bc bs : Nat} {Q : Option Value → aH → Prop} {r : Option Value} (hr : aRet md pc r) (hq : Q r h) : aX md E h pc lv r.toList bc bs Q := by
  intro p l e s m args below meth c G ad A H locs cells slots ls Qm C hR hl h1 h2 F
  exact F ad h r H locs cells slots pc ls (aLe.rf rfl) hR (by omega) (by omega) hq hr
