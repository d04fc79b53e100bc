/-! NEW CELLS -/
def aOkV (n : Nat) (v : Value) : Bool := match v with
  | .ref k => decide (k < n)
  | _ => true
def aOkL (n : Nat) (lv : List (Nat × Value)) (st : List Value) : Bool := lv.all (fun q => aOkV n q.2) && st.all (aOkV n)
def aWf (h : aH) : Prop := ∀ k i r, h.2.2.2 k i = some r → r < 8 + h.1.length
/-- one more cell, its places 0 -/
def aNew (h : aH) (sn : Nat × Nat) : aH := (h.1 ++ [sn], aUr h.2.1 (8 + h.1.length) (fun _ => 0), aUr h.2.2.1 (8 + h.1.length) (fun _ => 0), aUr h.2.2.2 (8 + h.1.length) (fun _ => none))
def aAd (ad : Nat → Nat) (n q : Nat) : Nat → Nat := fun k => if k = n then q else ad k
theorem aAd_lt {ad : Nat → Nat} {n q k : Nat} (h : k < n) : aAd ad n q k = ad k := if_neg (by omega)
theorem aAd_s {ad : Nat → Nat} {n q : Nat} : aAd ad n q n = q := if_pos rfl
theorem aOkV_keep {ad : Nat → Nat} {n q : Nat} {v : Value} (h : aOkV n v = true) : aV (aAd ad n q) v = aV ad v := by
  cases v with
  | ref k => exact congrArg Value.ref (aAd_lt (of_decide_eq_true h))
  | _ => rfl
theorem aWf_new {h : aH} {sn : Nat × Nat} (hw : aWf h) : aWf (aNew h sn) := by
  intro k i r hr
  have hr : aUr h.2.2.2 (8 + h.1.length) (fun _ => none) k i = some r := hr
  have hl : (aNew h sn).1.length = h.1.length + 1 := by unfold aNew; simp
  by_cases e : k = 8 + h.1.length
  · subst e
    rw [aUr_s] at hr
    cases hr
  · rw [aUr_o e] at hr
    have := hw k i r hr
    omega
theorem aEnt_new {G : aG} {ad : Nat → Nat} {h : aH} {sn : Nat × Nat} {q k : Nat} (hw : aWf h) (hk : k < 8 + h.1.length) (z : Nat × Nat) : aEnt G (aAd ad (8 + h.1.length) q) (aNew h sn) k z = aEnt G ad h k z := by
  have hne : k ≠ 8 + h.1.length := by omega
  have e1 : (aNew h sn).2.1 k = h.2.1 k := aUr_o hne
  have e2 : (aNew h sn).2.2.1 k = h.2.2.1 k := aUr_o hne
  have e3 : (aNew h sn).2.2.2 k = h.2.2.2 k := aUr_o hne
  have e4 : ∀ i, (h.2.2.2 k i).map (aAd ad (8 + h.1.length) q) = (h.2.2.2 k i).map ad := fun i => by
    cases hr : h.2.2.2 k i with
    | none => rfl
    | some r => exact congrArg some (aAd_lt (hw k i r hr))
  have e5 : ∀ t f, aFv (aAd ad (8 + h.1.length) q) (aNew h sn) t k f = aFv ad h t k f := fun t f => by
    cases t <;> simp only [aFv, e1, e2, e3, e4]
  unfold aEnt aFs
  simp only [e1, e2, e3, e4, e5]
theorem aWs_new {G : aG} {ad : Nat → Nat} {h : aH} {sn : Nat × Nat} {q : Nat} (hw : aWf h) : aWs G (aAd ad (8 + h.1.length) q) (aNew h sn) = aWs G ad h ++ [(q, aEnt G (aAd ad (8 + h.1.length) q) (aNew h sn) (8 + h.1.length) sn)] := by
  have hl : (aNew h sn).1.length = h.1.length + 1 := by unfold aNew; simp
  unfold aWs
  rw [hl, List.range_succ, List.map_append]
  congr 1
  · apply List.map_congr_left
    intro k hk
    have hk := List.mem_range.mp hk
    have e : (aNew h sn).1.getD k (0, 0) = h.1.getD k (0, 0) := by
      show (h.1 ++ [sn]).getD k (0, 0) = _
      rw [List.getD_eq_getElem?_getD, List.getD_eq_getElem?_getD, List.getElem?_append_left hk]
    rw [e, aAd_lt (by omega), aEnt_new hw (by omega)]
  · have e : (aNew h sn).1.getD h.1.length (0, 0) = sn := by
      show (h.1 ++ [sn]).getD h.1.length (0, 0) = _
      rw [List.getD_eq_getElem?_getD, List.getElem?_append_right (Nat.le_refl _)]
      simp
    have e2 : h.1.length + 8 = 8 + h.1.length := by omega
    simp only [List.map_cons, List.map_nil, e, e2, aAd_s]
theorem aLe_new {h : aH} {ad : Nat → Nat} {sn : Nat × Nat} {q : Nat} : aLe h ad (aNew h sn) (aAd ad (8 + h.1.length) q) := by
  have hl : (aNew h sn).1.length = h.1.length + 1 := by unfold aNew; simp
  exact ⟨by omega, fun k hk => aAd_lt hk, fun e => by omega⟩
theorem aLv_wf {ad : Nat → Nat} {n q : Nat} {lv : List (Nat × Value)} {st : List Value} (h : aOkL n lv st = true) : aLv (aAd ad n q) lv = aLv ad lv ∧ st.map (aV (aAd ad n q)) = st.map (aV ad) := by
  unfold aOkL at h
  rw [Bool.and_eq_true, List.all_eq_true, List.all_eq_true] at h
  exact ⟨aLv_keep (fun x hx => aOkV_keep (h.1 x hx)), List.map_congr_left (fun v hv => aOkV_keep (h.2 v hv))⟩
theorem aCtx_ad {md : aMd} {E : aE} {G : aG} {ad ad' : Nat → Nat} {A : Nat → Prop} {p : Program} {s : State} {m : MethodId} {args : Array Value} {meth : Method} {c : Code} (C : aCtx md E G ad A p s m args meth c) (h : ∀ k, k < 8 → ad' k = ad k) : aCtx md E G ad' A p s m args meth c :=
  ⟨C.1, C.2.1, C.2.2.1, C.2.2.2.1, C.2.2.2.2.1, C.2.2.2.2.2.1, aK_ad h C.2.2.2.2.2.2⟩
theorem aCid {G : aG} {s : State} {tys : List (ClassId × FieldType)} {D : va_G} {cl : List vw_C} {k kd : Nat} {ty : FieldType} {cA : ClassId} (h1 : va_K D cl tys s) (h2 : tys[k]? = some (cA, ty)) (h3 : va_K G.1 vwCl (aTys G) s) (h4 : (aTys G)[kd]? = some (G.2 kd, ty)) : cA = G.2 kd := by
  have a := (h1.2 k _ h2).2
  have b := (h3.2 kd _ h4).2
  cases ty with
  | object C =>
    obtain ⟨_, _, _, _, _, a4⟩ := a
    obtain ⟨_, _, _, _, _, b4⟩ := b
    exact Option.some.inj (a4.symm.trans b4)
  | _ => exact Option.some.inj (Eq.trans (Eq.symm (show s.vm.findClass _ = some cA from a)) (show s.vm.findClass _ = some (G.2 kd) from b))
section ANEW
variable {md : aMd} {E : aE} {h : aH} {pc : Nat} {lv : List (Nat × Value)} {st : List Value} {bc bs : Nat} {Q : Option Value → aH → Prop}
theorem aX_newa {at' : ArrayType} {kd : Nat} {n : Int32} {N : Nat} (hd : decode md.2.1 pc = .ok (.newarray at', 2)) (hk : (at' = .int ∧ kd = 0) ∨ (at' = .boolean ∧ kd = 1) ∨ (at' = .byte ∧ kd = 2) ∨ (at' = .long ∧ kd = 3)) (hw : Cond.arrayClass (newarray.typeOf at') ∈ aTb) (hn : ¬ n < 0) (hN : n.toNatClampNeg = N) (hb : N ≤ 65536) (hwf : aWf h) (hok : aOkL (8 + h.1.length) lv st = true) (hbc : 1 ≤ bc) (hbs : N ≤ bs)
    (k : aX md E (aNew h (kd, N)) (pc + 2) lv (.ref (8 + h.1.length) :: st) (bc - 1) (bs - N) Q) : aX md E h pc lv (.int n :: st) bc bs Q := by
  intro p l e s m args below meth c G ad A H locs cells slots ls Qm C hR hl h1 h2 F
  have hK := C.2.2.2.2.2.2
  have key : ∀ (ty : FieldType) (a0 : vp_A), newarray.typeOf at' = ty → (aTys G)[kd]? = some (G.2 kd, ty) → (∀ cA : ClassId, vp_cell cA a0 = arrV cA N (fun _ => defaultValue ty)) → N * componentBytes ty ≤ 536870912 → (∀ ad', aEnt G ad' (aNew h (kd, N)) (8 + h.1.length) (kd, N) = .inl (G.2 kd, a0)) → W p l e md.2.2.2.2 s m args below meth c H locs cells slots Qm (F0 m pc ls (.int n :: st.map (aV ad))) := by
    intro ty a0 hty hT ha hbt hEn
    refine va_newa (D := G.1) C.1 C.2.1 (C.2.2.2.2.1 _ hw) hty hK.1 hR.1 hR.2.1 hR.2.2 hK.2.1 ha hn hN hbt (by omega) (by omega) hd (fun q cA H1 b1 b2 b3 b4 => ?_)
    have hc : cA = G.2 kd := aCid b1 (show (aTys G ++ [(cA, ty)])[6]? = some (cA, ty) from rfl) hK.1 hT
    subst hc
    obtain ⟨w1, w2⟩ := aLv_wf (ad := ad) (q := q) hok
    have hR' : aR G (aAd ad (8 + h.1.length) q) (aNew h (kd, N)) A s H1 locs := by
      unfold aR
      rw [aWs_new hwf, hEn]
      exact ⟨b2, b3, b4⟩
    have e := k p l e s m args below meth c G (aAd ad (8 + h.1.length) q) A H1 locs (cells + 1) (slots + N) ls Qm (aCtx_ad C (fun k hk => aAd_lt (by omega))) hR' (by rw [w1]; exact hl) (by omega) (by omega) (F.tr aLe_new)
    rw [List.map_cons, w2] at e
    have e9 : aV (aAd ad (8 + h.1.length) q) (.ref (8 + h.1.length)) = .ref q := congrArg Value.ref aAd_s
    rw [e9] at e
    exact e
  have u1 : (aNew h (kd, N)).2.1 (8 + h.1.length) = fun _ => 0 := aUr_s
  have u2 : (aNew h (kd, N)).2.2.1 (8 + h.1.length) = fun _ => 0 := aUr_s
  rcases hk with ⟨rfl, rfl⟩ | ⟨rfl, rfl⟩ | ⟨rfl, rfl⟩ | ⟨rfl, rfl⟩
  · exact key .int (N, .inl (fun _ => 0)) rfl rfl (fun _ => rfl) (by show N * 4 ≤ _; omega) (fun ad' => by show Sum.inl (G.2 0, N, Sum.inl _) = _; rw [u1])
  · exact key .boolean (N, .inl (fun _ => 0)) rfl rfl (fun _ => rfl) (by show N * 1 ≤ _; omega) (fun ad' => by show Sum.inl (G.2 1, N, Sum.inl _) = _; rw [u1])
  · exact key .byte (N, .inl (fun _ => 0)) rfl rfl (fun _ => rfl) (by show N * 1 ≤ _; omega) (fun ad' => by show Sum.inl (G.2 2, N, Sum.inl _) = _; rw [u1])
  · exact key .long (N, .inr (.inl (fun _ => 0))) rfl rfl (fun _ => rfl) (by show N * 8 ≤ _; omega) (fun ad' => by show Sum.inl (G.2 3, N, Sum.inr (Sum.inl _)) = _; rw [u2])
/-- a class whose objects are made -/
def aLkN (own : String) (idx ci : Nat) : Prop := ∃ (C : String) (T : u_T) (N : Nat), vwCl[ci]? = some (C, T, N) ∧ (∀ w ∈ u_ws C T N, w ∈ aTb) ∧ Cond.classLink own idx C ∈ aTb ∧ Cond.instantiable C N ∈ aTb ∧ Cond.initialized C ∈ aTb ∧ (∀ k, k < N → parseFieldDescriptor (T k).2.2.1 = some (aT ci k)) ∧ (∀ k, k < N → aT ci k = .int ∨ aT ci k = .boolean ∨ aT ci k = .long ∨ (∃ C, aT ci k = .object C) ∨ ∃ t, aT ci k = .array t)
theorem aX_new {idx ci : Nat} (hd : decode md.2.1 pc = .ok (.new idx, 3)) (hL : aLkN md.1.cls idx ci) (hwf : aWf h) (hok : aOkL (8 + h.1.length) lv st = true) (hbc : 1 ≤ bc) (hbs : aN ci ≤ bs)
    (k : aX md E (aNew h (10 + ci, 0)) (pc + 3) lv (.ref (8 + h.1.length) :: st) (bc - 1) (bs - aN ci) Q) : aX md E h pc lv st bc bs Q := by
  intro p l e s m args below meth c G ad A H locs cells slots ls Qm C hR hl h1 h2 F
  have hK := C.2.2.2.2.2.2
  obtain ⟨Cn, T, N, g1, g2, g3, g4, g5, g6, g7⟩ := hL
  have hN := aN_of g1
  rw [hN] at hbs k
  have u1 : (aNew h (10 + ci, 0)).2.1 (8 + h.1.length) = fun _ => 0 := aUr_s
  have u2 : (aNew h (10 + ci, 0)).2.2.1 (8 + h.1.length) = fun _ => 0 := aUr_s
  have u3 : (aNew h (10 + ci, 0)).2.2.2 (8 + h.1.length) = fun _ => none := aUr_s
  have hfs : ∀ j, j < N → defaultValue (aT ci j) = vp_V (aFs ad (aNew h (10 + ci, 0)) ci (8 + h.1.length)) j := by
    intro j hj
    unfold vp_V
    rw [List.getD_eq_getElem?_getD, aFs_get (by omega), Option.getD_some, ← aFv_val]
    rcases g7 j hj with e | e | e | ⟨C, e⟩ | ⟨t, e⟩ <;> rw [e] <;> simp only [aFv, u1, u2, u3] <;> rfl
  have hfa : ∀ ad', aFs ad' (aNew h (10 + ci, 0)) ci (8 + h.1.length) = aFs ad (aNew h (10 + ci, 0)) ci (8 + h.1.length) := by
    intro ad'
    unfold aFs
    apply List.map_congr_left
    intro f _
    cases aT ci f <;> simp only [aFv, u1, u2, u3] <;> rfl
  refine va_new (D := G.1) (ci := ci) (C := Cn) (T := T) (N := N) C.1 C.2.1 C.2.2.2.2.1 g2 (aT ci) g6 C.2.2.2.1 (C.2.2.2.2.1 _ g3) (C.2.2.2.2.1 _ g4) (C.2.2.2.2.1 _ g5) hK.1 hR.1 hR.2.1 hR.2.2 hK.2.1 g1 hfs (by omega) (by omega) hd (fun q H1 b2 b3 b4 => ?_)
  obtain ⟨w1, w2⟩ := aLv_wf (ad := ad) (q := q) hok
  have hR' : aR G (aAd ad (8 + h.1.length) q) (aNew h (10 + ci, 0)) A s H1 locs := by
    unfold aR
    rw [aWs_new hwf, aEnt_obj, hfa]
    exact ⟨b2, b3, b4⟩
  have e := k p l e s m args below meth c G (aAd ad (8 + h.1.length) q) A H1 locs (cells + 1) (slots + N) ls Qm (aCtx_ad C (fun k hk => aAd_lt (by omega))) hR' (by rw [w1]; exact hl) (by omega) (by omega) (F.tr aLe_new)
  rw [List.map_cons, w2] at e
  have e9 : aV (aAd ad (8 + h.1.length) q) (.ref (8 + h.1.length)) = .ref q := congrArg Value.ref aAd_s
  rw [e9] at e
  exact e
theorem aX_newq {idx : Nat} {n : Int32} {N : Nat} (hd : decode md.2.1 pc = .ok (.anewarray idx, 3)) (hw : Cond.classLink md.1.cls idx "JustMoves$Whole" ∈ aTb) (hn : ¬ n < 0) (hN : n.toNatClampNeg = N) (hb : N ≤ 65536) (hwf : aWf h) (hok : aOkL (8 + h.1.length) lv st = true) (hbc : 1 ≤ bc) (hbs : N ≤ bs)
    (k : aX md E (aNew h (4, N)) (pc + 3) lv (.ref (8 + h.1.length) :: st) (bc - 1) (bs - N) Q) : aX md E h pc lv (.int n :: st) bc bs Q := by
  intro p l e s m args below meth c G ad A H locs cells slots ls Qm C hR hl h1 h2 F
  have hK := C.2.2.2.2.2.2
  have u3 : (aNew h (4, N)).2.2.2 (8 + h.1.length) = fun _ => none := aUr_s
  refine va_newq (D := G.1) C.1 C.2.1 C.2.2.2.1 (C.2.2.2.2.1 _ hw) hK.2.2.2.2.2.2.1 hK.1 hR.1 hR.2.1 hR.2.2 hK.2.1 hn hN (by omega) (by omega) (by omega) hd (fun q cA H1 b1 b2 b3 b4 => ?_)
  have hc : cA = G.2 4 := aCid b1 (show (aTys G ++ [(cA, .object "JustMoves$Whole")])[6]? = some (cA, .object "JustMoves$Whole") from rfl) hK.1 rfl
  subst hc
  obtain ⟨w1, w2⟩ := aLv_wf (ad := ad) (q := q) hok
  have hR' : aR G (aAd ad (8 + h.1.length) q) (aNew h (4, N)) A s H1 locs := by
    unfold aR
    rw [aWs_new hwf]
    have : aEnt G (aAd ad (8 + h.1.length) q) (aNew h (4, N)) (8 + h.1.length) (4, N) = .inl (G.2 4, N, .inr (.inr (.inr (.inr (fun _ => none))))) := by
      show Sum.inl (G.2 4, N, Sum.inr (Sum.inr (Sum.inr (Sum.inr (fun i => ((aNew h (4, N)).2.2.2 (8 + h.1.length) i).map _))))) = _
      rw [u3]
      rfl
    rw [this]
    exact ⟨b2, b3, b4⟩
  have e := k p l e s m args below meth c G (aAd ad (8 + h.1.length) q) A H1 locs (cells + 1) (slots + N) ls Qm (aCtx_ad C (fun k hk => aAd_lt (by omega))) hR' (by rw [w1]; exact hl) (by omega) (by omega) (F.tr aLe_new)
  rw [List.map_cons, w2] at e
  have e9 : aV (aAd ad (8 + h.1.length) q) (.ref (8 + h.1.length)) = .ref q := congrArg Value.ref aAd_s
  rw [e9] at e
  exact e
/-- an object is laid into an array of Wholes -/
theorem aX_aast {q n r z : Nat} {i : Int32} (hd : decode md.2.1 pc = .ok (.aastore, 1)) (hs : aSh h q = some (4, n)) (hin : vp_in i n) (hv : aSh h r = some (10 + 9, z)) (k : aX md E (h.1, h.2.1, h.2.2.1, aU h.2.2.2 q i.toNatClampNeg (some r)) (pc + 1) lv st bc bs Q) : aX md E h pc lv (.ref r :: .int i :: .ref q :: st) bc bs Q := by
  intro p l e s m args below meth c G ad A H locs cells slots ls Qm C hR hl h1 h2 F
  exact va_astq (D := G.1) (r := (RX9, TX9, 2)) C.1 C.2.1 C.2.2.2.2.2.2.1 hR.1 hR.2.1 hR.2.2 (q - 8) 4 (r - 8) 9 (aWs_get hs) rfl ((aWs_get hv).trans (by rw [aEnt_obj])) rfl hin hd (fun H1 locs1 a1 a2 a3 => k p l e s m args below meth c G ad A H1 locs1 cells slots ls Qm C (aR_set hs rfl (by
    show Sum.inl (G.2 4, n, Sum.inr (Sum.inr (Sum.inr (Sum.inr (fun j => (aU h.2.2.2 q i.toNatClampNeg (some r) q j).map ad))))) = _
    congr 8
    funext j
    by_cases e : j = i.toNatClampNeg
    · simp [aU, va_up, e]
    · simp [aU, va_up, e]) (fun k9 h9 z9 => by refine aEnt_same ?_ ?_ ?_ z9 <;> first | rfl | exact aU_o h9) a1 a2 a3) hl h1 h2 (F.tr (aLe.rf rfl)))
theorem aX_objInit {idx q : Nat} (hd : decode md.2.1 pc = .ok (.invokespecial idx, 3)) (hw1 : Cond.methodLink md.1.cls idx objectInit ∈ aTb) (hw2 : Cond.instanceMethod objectInit ∈ aTb) (hw3 : Cond.code objectInit ⟨#[0xb1]⟩ 1 none ∈ aTb) (hf : 1 ≤ md.2.2.2.2.frames) (hlo : (st.map fun v => v.category).sum + 12 ≤ md.2.2.2.2.locals) (k : aX md E h (pc + 3) lv st bc bs Q) : aX md E h pc lv (.ref q :: st) bc bs Q := by
  intro p l e s m args below meth c G ad A H locs cells slots ls Qm C hR hl h1 h2 F
  exact W.objInit C.1 C.2.1 C.2.2.2.1 (C.2.2.2.2.1 _ hw1) (C.2.2.2.2.1 _ hw2) (C.2.2.2.2.1 _ hw3) rfl (by rw [C.2.2.1]; exact hl.1) rfl hd hf (by show 2 * 0 + ((st.map (aV ad)).map fun v => v.category).sum + 12 ≤ _; rw [aCat]; omega) (k p l e s m args below meth c G ad A H locs cells slots ls Qm C hR hl h1 h2 F)
end ANEW
