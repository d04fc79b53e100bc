/-! ROWS OF THE ABSTRACT MACHINE: fields, arrays, statics -/
def aVal (h : aH) (t : FieldType) (q f : Nat) : Value := match t with
  | .int => .int (h.2.1 q f)
  | .boolean => .int (h.2.1 q f)
  | .long => .long (h.2.2.1 q f)
  | _ => va_rf (h.2.2.2 q f)
theorem aV_rf (ad : Nat → Nat) (r : Option Nat) : aV ad (va_rf r) = va_rf (r.map ad) := by cases r <;> rfl
theorem aFv_val (ad : Nat → Nat) (h : aH) (t : FieldType) (q f : Nat) : aFv ad h t q f = aV ad (aVal h t q f) := by
  cases t <;> first | rfl | exact (aV_rf ad _).symm
def aLkF (own : String) (idx ci f : Nat) : Prop := ∃ (C : String) (T : u_T) (N : Nat), vwCl[ci]? = some (C, T, N) ∧ f < N ∧ (∀ w ∈ u_ws C T N, w ∈ aTb) ∧ Cond.fieldLink own idx C (T f).2.1 (T f).2.2.1 ∈ aTb ∧ (T f).1 = C ∧ (∀ k, k < N → parseFieldDescriptor (T k).2.2.1 = some (aT ci k)) ∧ (∀ a, a < N → ∀ b, b < N → a ≠ b → (T a).2.1 ≠ (T b).2.1)
theorem aN_of {ci : Nat} {C : String} {T : u_T} {N : Nat} (h : vwCl[ci]? = some (C, T, N)) : aN ci = N := by unfold aN; rw [h]; rfl
theorem aEnt_obj {G : aG} {ad : Nat → Nat} {h : aH} {q ci z : Nat} : aEnt G ad h q (10 + ci, z) = .inr (ci, aFs ad h ci q) := by
  unfold aEnt
  have e : 10 + ci - 10 = ci := by omega
  rw [if_neg (by show ¬ 10 + ci < 3; omega), if_neg (by show ¬ 10 + ci = 3; omega), if_neg (by show ¬ 10 + ci < 10; omega)]
  show Sum.inr (10 + ci - 10, aFs ad h (10 + ci - 10) q) = _
  rw [e]
theorem aFs_get {ad : Nat → Nat} {h : aH} {ci q f : Nat} (hf : f < aN ci) : (aFs ad h ci q)[f]? = some (aV ad (aVal h (aT ci f) q f)) := by
  unfold aFs
  rw [List.getElem?_map, List.getElem?_range hf, Option.map_some, aFv_val]
theorem aFs_len {ad : Nat → Nat} {h : aH} {ci q : Nat} : (aFs ad h ci q).length = aN ci := by unfold aFs; rw [List.length_map, List.length_range]
section AHP
variable {md : aMd} {E : aE} {h : aH} {pc : Nat} {lv : List (Nat × Value)} {st : List Value} {bc bs : Nat} {Q : Option Value → aH → Prop}
theorem aX_get {idx ci f z q : Nat} {v : Value} (hd : decode md.2.1 pc = .ok (.getfield idx, 3)) (hL : aLkF md.1.cls idx ci f) (hs : aSh h q = some (10 + ci, z)) (hv : aVal h (aT ci f) q f = v) (k : aX md E h (pc + 3) lv (v :: st) bc bs Q) : aX md E h pc lv (.ref q :: st) bc bs Q := by
  subst hv
  intro p l e s m args below meth c G ad A H locs cells slots ls Qm C hR hl h1 h2 F
  obtain ⟨Cn, T, N, g1, g2, g3, g4, g5, -⟩ := hL
  exact va_get (D := G.1) (ci := ci) (C := Cn) (T := T) (N := N) (ref := Cn) C.1 C.2.1 C.2.2.2.2.1 g3 C.2.2.2.1 C.2.2.2.2.2.2.1 hR.1 (q - 8) ((aWs_get hs).trans (by rw [aEnt_obj])) g1 f g2 (C.2.2.2.2.1 _ g4) (fun x hx => by rw [g5] at hx; exact hx) (aFs_get (by rw [aN_of g1]; exact g2)) hd (k p l e s m args below meth c G ad A H locs cells slots ls Qm C hR hl h1 h2 F)
/-- the cell's entry anew, the rest as it was -/
theorem aR_set {G : aG} {ad : Nat → Nat} {h h' : aH} {A : Nat → Prop} {s : State} {H1 : Heap} {locs1 : List Loc} {q : Nat} {sn : Nat × Nat} {en : va_E} (hs : aSh h q = some sn) (e1 : h'.1 = h.1) (he : aEnt G ad h' q sn = en) (ho : ∀ k, k ≠ q → ∀ z, aEnt G ad h' k z = aEnt G ad h k z)
    (hP : va_P G.1 vwCl ((aWs G ad h).set (q - 8) (ad q, en)) H1) (hD : va_D A ((aWs G ad h).set (q - 8) (ad q, en))) (hS : va_S A s.heap H1 locs1) : aR G ad h' A s H1 locs1 := by
  rw [aWs_set hs e1 he ho] at hP hD
  exact ⟨hP, hD, hS⟩
theorem aEnt_same {G : aG} {ad : Nat → Nat} {h h' : aH} {k : Nat} (e1 : h'.2.1 k = h.2.1 k) (e2 : h'.2.2.1 k = h.2.2.1 k) (e3 : h'.2.2.2 k = h.2.2.2 k) (z : Nat × Nat) : aEnt G ad h' k z = aEnt G ad h k z := by
  have e4 : ∀ t f, aFv ad h' t k f = aFv ad h t k f := fun t f => by
    cases t <;> simp only [aFv, e1, e2, e3]
  unfold aEnt aFs
  simp only [e1, e2, e3, e4]
/-- a field is written: its value fits its type -/
def aOkF (t : FieldType) (v : Value) : Prop := match t, v with
  | .int, .int _ => True
  | .boolean, .int x => x = 0 ∨ x = 1
  | .long, .long _ => True
  | .object _, .ref _ => True
  | .array _, .ref _ => True
  | _, _ => False
def aPutF (h : aH) (t : FieldType) (q f : Nat) (v : Value) : aH := match t, v with
  | .int, .int x => (h.1, aU h.2.1 q f x, h.2.2)
  | .boolean, .int x => (h.1, aU h.2.1 q f x, h.2.2)
  | .long, .long x => (h.1, h.2.1, aU h.2.2.1 q f x, h.2.2.2)
  | .object _, .ref r => (h.1, h.2.1, h.2.2.1, aU h.2.2.2 q f (some r))
  | .array _, .ref r => (h.1, h.2.1, h.2.2.1, aU h.2.2.2 q f (some r))
  | _, _ => h
theorem aPutF_1 {h : aH} {t : FieldType} {q f : Nat} {v : Value} : (aPutF h t q f v).1 = h.1 := by
  cases t <;> cases v <;> rfl
theorem aPutF_o {G : aG} {ad : Nat → Nat} {h : aH} {t : FieldType} {q f k : Nat} {v : Value} (hk : k ≠ q) (z : Nat × Nat) : aEnt G ad (aPutF h t q f v) k z = aEnt G ad h k z := by
  cases t <;> cases v <;> first | rfl | (refine aEnt_same ?_ ?_ ?_ z <;> first | rfl | exact aU_o hk)
theorem aPutF_val {h : aH} {t t' : FieldType} {q f g : Nat} {v : Value} (ho : aOkF t v) (hg : g ≠ f) : aVal (aPutF h t q f v) t' q g = aVal h t' q g := by
  have hn : ¬ (q = q ∧ g = f) := fun z => hg z.2
  cases t <;> cases v <;> first | exact ho.elim | (cases t' <;> simp only [aVal, aPutF, aU_n hn]) 
theorem aPutF_self {h : aH} {t : FieldType} {q f : Nat} {v : Value} (ho : aOkF t v) : aVal (aPutF h t q f v) t q f = v := by
  cases t <;> cases v <;> first | exact ho.elim | (simp only [aVal, aPutF, aU_s]; try rfl)
theorem aPutF_fs {ad : Nat → Nat} {h : aH} {ci q f : Nat} {v : Value} (hf : f < aN ci) (ho : aOkF (aT ci f) v) : aFs ad (aPutF h (aT ci f) q f v) ci q = (aFs ad h ci q).set f (aV ad v) := by
  apply List.ext_getElem?
  intro g
  by_cases hg : g = f
  · subst hg
    rw [List.getElem?_set_self (by rw [aFs_len]; exact hf), aFs_get hf, aPutF_self ho]
  · rw [List.getElem?_set_ne (Ne.symm hg)]
    by_cases hl : g < aN ci
    · rw [aFs_get hl, aFs_get hl, aPutF_val ho hg]
    · rw [List.getElem?_eq_none (by rw [aFs_len]; omega), List.getElem?_eq_none (by rw [aFs_len]; omega)]
theorem aOkF_nar {ad : Nat → Nat} {t : FieldType} {v : Value} (ho : aOkF t v) : narrow t (aV ad v) = aV ad v ∧ fits t (aV ad v) = true := by
  cases t <;> cases v <;> first | exact ho.elim | exact ⟨rfl, rfl⟩ | (rcases ho with rfl | rfl <;> exact ⟨rfl, rfl⟩)
theorem aX_put {idx ci f z q : Nat} {v : Value} (hd : decode md.2.1 pc = .ok (.putfield idx, 3)) (hL : aLkF md.1.cls idx ci f) (hfin : ∀ C T N, vwCl[ci]? = some (C, T, N) → (T f).2.2.2 = false ∨ (C = md.1.cls ∧ md.1.name = "<init>")) (hs : aSh h q = some (10 + ci, z)) (ho : aOkF (aT ci f) v) (k : aX md E (aPutF h (aT ci f) q f v) (pc + 3) lv st bc bs Q) : aX md E h pc lv (v :: .ref q :: st) bc bs Q := by
  intro p l e s m args below meth c G ad A H locs cells slots ls Qm C hR hl h1 h2 F
  obtain ⟨Cn, T, N, g1, g2, g3, g4, g5, g6, g7⟩ := hL
  have hF : ∀ (H1 : Heap) (locs1 : List Loc), va_P G.1 vwCl ((aWs G ad h).set (q - 8) (ad q, .inr (ci, (aFs ad h ci q).set f (aV ad v)))) H1 → va_D A ((aWs G ad h).set (q - 8) (ad q, .inr (ci, (aFs ad h ci q).set f (aV ad v)))) → va_S A s.heap H1 locs1 → W p l e md.2.2.2.2 s m args below meth c H1 locs1 cells slots Qm (F0 m (pc + 3) ls (st.map (aV ad))) := fun H1 locs1 a1 a2 a3 =>
    k p l e s m args below meth c G ad A H1 locs1 cells slots ls Qm C (aR_set hs aPutF_1 (by rw [aEnt_obj, aPutF_fs (by rw [aN_of g1]; exact g2) ho]) (fun k9 h9 z9 => aPutF_o h9 z9) a1 a2 a3) hl h1 h2 (F.tr (aLe.rf aPutF_1))
  have hty := g6 f g2
  by_cases hb : (T f).2.2.2 = false
  · exact va_put (D := G.1) (ci := ci) (C := Cn) (T := T) (N := N) (ref := Cn) (ty := aT ci f) C.1 C.2.1 C.2.2.2.2.1 g3 (aT ci) g6 g7 C.2.2.2.1 C.2.2.2.2.2.2.1 hR.1 hR.2.1 hR.2.2 (q - 8) ((aWs_get hs).trans (by rw [aEnt_obj])) g1 f g2 (C.2.2.2.2.1 _ g4) (fun x hx => by rw [g5] at hx; exact hx) hb hty (aOkF_nar ho).1 (aOkF_nar ho).2 (by rw [aFs_len, aN_of g1]; exact g2) hd hF
  · rcases hfin Cn T N g1 with w | ⟨w1, w2⟩
    · exact absurd w hb
    · exact va_putF (D := G.1) (ci := ci) (C := Cn) (T := T) (N := N) (ref := Cn) (ty := aT ci f) C.1 C.2.1 C.2.2.2.2.1 g3 (aT ci) g6 g7 C.2.2.2.1 C.2.2.2.2.2.2.1 hR.1 hR.2.1 hR.2.2 (q - 8) ((aWs_get hs).trans (by rw [aEnt_obj])) g1 f g2 (C.2.2.2.2.1 _ g4) (fun x hx => by rw [g5] at hx; exact hx) (by cases hq : (T f).2.2.2 with | true => rfl | false => exact absurd hq hb) (C.2.2.2.2.2.1 w2) (g5.trans w1) hty (aOkF_nar ho).1 (aOkF_nar ho).2 (by rw [aFs_len, aN_of g1]; exact g2) hd hF
theorem aX_iald {q n : Nat} {i : Int32} (hd : decode md.2.1 pc = .ok (.iaload, 1)) (hs : aSh h q = some (0, n)) (hin : vp_in i n) (k : aX md E h (pc + 1) lv (.int (h.2.1 q i.toNatClampNeg) :: st) bc bs Q) : aX md E h pc lv (.int i :: .ref q :: st) bc bs Q := by
  intro p l e s m args below meth c G ad A H locs cells slots ls Qm C hR hl h1 h2 F
  exact va_iald (D := G.1) C.1 C.2.1 C.2.2.2.2.2.2.1 hR.1 (q - 8) 0 (aWs_get hs) rfl hin hd (k p l e s m args below meth c G ad A H locs cells slots ls Qm C hR hl h1 h2 F)
theorem aX_zald {q n : Nat} {i : Int32} (hd : decode md.2.1 pc = .ok (.baload, 1)) (hs : aSh h q = some (1, n)) (hin : vp_in i n) (k : aX md E h (pc + 1) lv (.int (h.2.1 q i.toNatClampNeg) :: st) bc bs Q) : aX md E h pc lv (.int i :: .ref q :: st) bc bs Q := by
  intro p l e s m args below meth c G ad A H locs cells slots ls Qm C hR hl h1 h2 F
  exact va_zald (D := G.1) C.1 C.2.1 C.2.2.2.2.2.2.1 hR.1 (q - 8) 1 (aWs_get hs) rfl hin hd (k p l e s m args below meth c G ad A H locs cells slots ls Qm C hR hl h1 h2 F)
theorem aX_bald {q n : Nat} {i : Int32} (hd : decode md.2.1 pc = .ok (.baload, 1)) (hs : aSh h q = some (2, n)) (hin : vp_in i n) (k : aX md E h (pc + 1) lv (.int (h.2.1 q i.toNatClampNeg) :: st) bc bs Q) : aX md E h pc lv (.int i :: .ref q :: st) bc bs Q := by
  intro p l e s m args below meth c G ad A H locs cells slots ls Qm C hR hl h1 h2 F
  exact va_bald (D := G.1) C.1 C.2.1 C.2.2.2.2.2.2.1 hR.1 (q - 8) 2 (aWs_get hs) rfl hin hd (k p l e s m args below meth c G ad A H locs cells slots ls Qm C hR hl h1 h2 F)
theorem aX_lald {q n : Nat} {i : Int32} (hd : decode md.2.1 pc = .ok (.laload, 1)) (hs : aSh h q = some (3, n)) (hin : vp_in i n) (k : aX md E h (pc + 1) lv (.long (h.2.2.1 q i.toNatClampNeg) :: st) bc bs Q) : aX md E h pc lv (.int i :: .ref q :: st) bc bs Q := by
  intro p l e s m args below meth c G ad A H locs cells slots ls Qm C hR hl h1 h2 F
  exact va_lald (D := G.1) C.1 C.2.1 C.2.2.2.2.2.2.1 hR.1 (q - 8) 3 (aWs_get hs) rfl hin hd (k p l e s m args below meth c G ad A H locs cells slots ls Qm C hR hl h1 h2 F)
/-- an array of references, of objects or of rows -/
theorem aX_aald {q n r : Nat} {i : Int32} {kd : Nat} (hd : decode md.2.1 pc = .ok (.aaload, 1)) (hs : aSh h q = some (kd, n)) (hkd : kd = 4 ∨ kd = 5) (hin : vp_in i n) (hr : h.2.2.2 q i.toNatClampNeg = some r) (k : aX md E h (pc + 1) lv (.ref r :: st) bc bs Q) : aX md E h pc lv (.int i :: .ref q :: st) bc bs Q := by
  intro p l e s m args below meth c G ad A H locs cells slots ls Qm C hR hl h1 h2 F
  have hk := k p l e s m args below meth c G ad A H locs cells slots ls Qm C hR hl h1 h2 F
  have hlt : i.toNatClampNeg < n := Nat.not_le.mp fun q => hin (Or.inr q)
  have hv : va_rf ((h.2.2.2 q i.toNatClampNeg).map ad) = Value.ref (ad r) := by rw [hr]; rfl
  rcases hkd with rfl | rfl
  · refine va_aldq (D := G.1) (C := "JustMoves$Whole") (f := fun i => (h.2.2.2 q i).map ad) C.1 C.2.1 C.2.2.2.2.2.2.1 hR.1 (q - 8) 4 (aWs_get hs) rfl hin hd ?_
    show W p l e md.2.2.2.2 s m args below meth c H locs cells slots Qm (F0 m (pc + 1) ls (va_rf ((h.2.2.2 q i.toNatClampNeg).map ad) :: st.map (aV ad)))
    rw [hv]
    exact hk
  · have hc : H[ad q]? = some (vp_cell (G.2 5) (n, .inr (.inr (.inr (.inr (fun i => (h.2.2.2 q i).map ad)))))) := hR.1 (q - 8) _ (aWs_get hs)
    exact W.aald (v := .ref (ad r)) (ty := .array .long) C.1 C.2.1 hc ((C.2.2.2.2.2.2.1.2 5 _ rfl).1 n (fun j => va_rf ((h.2.2.2 q j).map ad))) rfl (fun q => by cases q) (by show ¬ (i < 0 ∨ (arrV _ _ _).slots.size ≤ _); rw [arrV_size]; exact hin) (by show (arrV _ _ _).slots[_]? = _; rw [arrV_read _ _ hlt, hv]) rfl rfl hd hk
theorem aX_iast {q n : Nat} {i x : Int32} (hd : decode md.2.1 pc = .ok (.iastore, 1)) (hs : aSh h q = some (0, n)) (hin : vp_in i n) (k : aX md E (h.1, aU h.2.1 q i.toNatClampNeg x, h.2.2) (pc + 1) lv st bc bs Q) : aX md E h pc lv (.int x :: .int i :: .ref q :: st) bc bs Q := by
  intro p l e s m args below meth c G ad A H locs cells slots ls Qm C hR hl h1 h2 F
  exact va_iast (D := G.1) C.1 C.2.1 C.2.2.2.2.2.2.1 hR.1 hR.2.1 hR.2.2 (q - 8) 0 (aWs_get hs) rfl hin hd (fun H1 locs1 a1 a2 a3 => k p l e s m args below meth c G ad A H1 locs1 cells slots ls Qm C (aR_set hs rfl (by show Sum.inl (G.2 0, n, Sum.inl (aU h.2.1 q i.toNatClampNeg x q)) = _; congr 4; funext j; simp [aU, upd]) (fun k9 h9 z9 => by refine aEnt_same ?_ ?_ ?_ z9 <;> first | rfl | exact aU_o h9) a1 a2 a3) hl h1 h2 (F.tr (aLe.rf rfl)))
theorem aX_zast {q n : Nat} {i x : Int32} (hd : decode md.2.1 pc = .ok (.bastore, 1)) (hs : aSh h q = some (1, n)) (hin : vp_in i n) (k : aX md E (h.1, aU h.2.1 q i.toNatClampNeg (vp_nar .boolean x), h.2.2) (pc + 1) lv st bc bs Q) : aX md E h pc lv (.int x :: .int i :: .ref q :: st) bc bs Q := by
  intro p l e s m args below meth c G ad A H locs cells slots ls Qm C hR hl h1 h2 F
  exact va_zast (D := G.1) C.1 C.2.1 C.2.2.2.2.2.2.1 hR.1 hR.2.1 hR.2.2 (q - 8) 1 (aWs_get hs) rfl hin hd (fun H1 locs1 a1 a2 a3 => k p l e s m args below meth c G ad A H1 locs1 cells slots ls Qm C (aR_set hs rfl (by show Sum.inl (G.2 1, n, Sum.inl (aU h.2.1 q i.toNatClampNeg (vp_nar .boolean x) q)) = _; congr 4; funext j; simp [aU, upd]) (fun k9 h9 z9 => by refine aEnt_same ?_ ?_ ?_ z9 <;> first | rfl | exact aU_o h9) a1 a2 a3) hl h1 h2 (F.tr (aLe.rf rfl)))
theorem aX_bast {q n : Nat} {i x : Int32} (hd : decode md.2.1 pc = .ok (.bastore, 1)) (hs : aSh h q = some (2, n)) (hin : vp_in i n) (k : aX md E (h.1, aU h.2.1 q i.toNatClampNeg (vp_nar .byte x), h.2.2) (pc + 1) lv st bc bs Q) : aX md E h pc lv (.int x :: .int i :: .ref q :: st) bc bs Q := by
  intro p l e s m args below meth c G ad A H locs cells slots ls Qm C hR hl h1 h2 F
  exact va_bast (D := G.1) C.1 C.2.1 C.2.2.2.2.2.2.1 hR.1 hR.2.1 hR.2.2 (q - 8) 2 (aWs_get hs) rfl hin hd (fun H1 locs1 a1 a2 a3 => k p l e s m args below meth c G ad A H1 locs1 cells slots ls Qm C (aR_set hs rfl (by show Sum.inl (G.2 2, n, Sum.inl (aU h.2.1 q i.toNatClampNeg (vp_nar .byte x) q)) = _; congr 4; funext j; simp [aU, upd]) (fun k9 h9 z9 => by refine aEnt_same ?_ ?_ ?_ z9 <;> first | rfl | exact aU_o h9) a1 a2 a3) hl h1 h2 (F.tr (aLe.rf rfl)))
theorem aX_last {q n : Nat} {i : Int32} {x : Int64} (hd : decode md.2.1 pc = .ok (.lastore, 1)) (hs : aSh h q = some (3, n)) (hin : vp_in i n) (k : aX md E (h.1, h.2.1, aU h.2.2.1 q i.toNatClampNeg x, h.2.2.2) (pc + 1) lv st bc bs Q) : aX md E h pc lv (.long x :: .int i :: .ref q :: st) bc bs Q := by
  intro p l e s m args below meth c G ad A H locs cells slots ls Qm C hR hl h1 h2 F
  exact va_last (D := G.1) C.1 C.2.1 C.2.2.2.2.2.2.1 hR.1 hR.2.1 hR.2.2 (q - 8) 3 (aWs_get hs) rfl hin hd (fun H1 locs1 a1 a2 a3 => k p l e s m args below meth c G ad A H1 locs1 cells slots ls Qm C (aR_set hs rfl (by show Sum.inl (G.2 3, n, Sum.inr (Sum.inl (aU h.2.2.1 q i.toNatClampNeg x q))) = _; congr 5; funext j; simp [aU, vp_updL]) (fun k9 h9 z9 => by refine aEnt_same ?_ ?_ ?_ z9 <;> first | rfl | exact aU_o h9) a1 a2 a3) hl h1 h2 (F.tr (aLe.rf rfl)))
/-- an array that is no cell of the world: a static one, or the script -/
theorem aX_eld {q n : Nat} {f : Nat → Int32} {i : Int32} (hd : decode md.2.1 pc = .ok (.iaload, 1)) (hE : E[q]? = some (n, f)) (hin : vp_in i n) (k : aX md E h (pc + 1) lv (.int (f i.toNatClampNeg) :: st) bc bs Q) : aX md E h pc lv (.int i :: .ref q :: st) bc bs Q := by
  intro p l e s m args below meth c G ad A H locs cells slots ls Qm C hR hl h1 h2 F
  obtain ⟨cell, e1, e2, e3, e4, e5, e6, e7⟩ := C.2.2.2.2.2.2.2.2.2.1 q _ hE
  have hlt : i.toNatClampNeg < n := Nat.not_le.mp fun q => hin (Or.inr q)
  exact W.iald (v := .int (f i.toNatClampNeg)) C.1 C.2.1 (by rw [hR.2.2.2.1 (ad q) (Array.getElem?_eq_some_iff.mp e1).1 e7]; exact e1) e2 e3 (fun z => z.elim (fun y => hin (Or.inl y)) (fun y => by have e4' : n ≤ cell.slots.size := e4; omega)) (e6 _ hlt) rfl rfl hd (k p l e s m args below meth c G ad A H locs cells slots ls Qm C hR hl h1 h2 F)
theorem aX_elen {q n : Nat} {f : Nat → Int32} (hd : decode md.2.1 pc = .ok (.arraylength, 1)) (hE : E[q]? = some (n, f)) (k : aX md E h (pc + 1) lv (.int (Int32.ofNat n) :: st) bc bs Q) : aX md E h pc lv (.ref q :: st) bc bs Q := by
  intro p l e s m args below meth c G ad A H locs cells slots ls Qm C hR hl h1 h2 F
  obtain ⟨cell, e1, e2, e3, e4, e5, e6, e7⟩ := C.2.2.2.2.2.2.2.2.2.1 q _ hE
  exact W.alen (n := Int32.ofNat n) C.1 C.2.1 (by rw [hR.2.2.2.1 (ad q) (Array.getElem?_eq_some_iff.mp e1).1 e7]; exact e1) e2 e5 rfl rfl hd (k p l e s m args below meth c G ad A H locs cells slots ls Qm C hR hl h1 h2 F)
theorem aX_alen {q n kd : Nat} (hd : decode md.2.1 pc = .ok (.arraylength, 1)) (hs : aSh h q = some (kd, n)) (hk : kd = 0 ∨ kd = 3) (k : aX md E h (pc + 1) lv (.int (Int32.ofNat n) :: st) bc bs Q) : aX md E h pc lv (.ref q :: st) bc bs Q := by
  intro p l e s m args below meth c G ad A H locs cells slots ls Qm C hR hl h1 h2 F
  rcases hk with rfl | rfl
  · exact va_alen (D := G.1) C.1 C.2.1 C.2.2.2.2.2.2.1 hR.1 (q - 8) 0 (aWs_get hs) rfl rfl hd (k p l e s m args below meth c G ad A H locs cells slots ls Qm C hR hl h1 h2 F)
  · exact va_alen (D := G.1) C.1 C.2.1 C.2.2.2.2.2.2.1 hR.1 (q - 8) 3 (aWs_get hs) rfl rfl hd (k p l e s m args below meth c G ad A H locs cells slots ls Qm C hR hl h1 h2 F)
theorem aX_gets {idx i : Nat} {nm : String} (hd : decode md.2.1 pc = .ok (.getstatic idx, 3)) (hi : aSt[i]? = some nm) (hw : Cond.fieldLink md.1.cls idx "JustMoves" nm "[I" ∈ aTb ∨ Cond.fieldLinkNest md.1.cls idx "JustMoves" nm "[I" "JustMoves" ∈ aNs) (k : aX md E h (pc + 3) lv (.ref i :: st) bc bs Q) : aX md E h pc lv st bc bs Q := by
  intro p l e s m args below meth c G ad A H locs cells slots ls Qm C hR hl h1 h2 F
  have hZ := C.2.2.2.2.2.2.2.2.2.2.1 i nm hi
  have hk := k p l e s m args below meth c G ad A H locs cells slots ls Qm C hR hl h1 h2 F
  rcases hw with hw | hw
  · exact va_gets C.1 C.2.1 hZ hR.2.2 C.2.2.2.1 (C.2.2.2.2.1 _ hw) (fun _ z => z) hd hk
  · exact va_getsN C.1 C.2.1 hZ hR.2.2 C.2.2.2.1 (va_Nw.use rfl (C.2.2.2.2.2.2.2.2.2.2.2.1 _ hw)) (fun _ z => z) hd hk
end AHP
