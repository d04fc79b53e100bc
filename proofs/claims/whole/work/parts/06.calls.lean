/-! CONTRACTS OF THE ABSTRACT MACHINE, AND CALLS -/
def aE0 : aE := [(12, fun n => ([1, 16, 9, 6, 5, 4, 45, 3, 8, 5, 9, 15] : List Int32).getD n 0), (12, fun n => ([1, 15, 8, 5, 4, 3, 32, 2, 5, 3, 5, 8] : List Int32).getD n 0), (6, fun n => ([2, 3, 5, 7, 11, 13] : List Int32).getD n 0), (6, fun n => ([120000, 190196, 278631, 336883, 415132, 444053] : List Int32).getD n 0), (5, fun n => ([100000, 1, 4, 2, 1] : List Int32).getD n 0), (5, fun n => ([1000000, 99, 99, 99, 99] : List Int32).getD n 0), (20, fun n => ([1073741789, 1073741783, 1073741741, 1073741723, 1073741719, 1073741717, 1073741689, 1073741671, 1073741663, 1073741651, 1073741621, 1073741567, 1073741561, 1073741527, 1073741503, 1073741477, 1073741467, 1073741441, 1073741419, 1073741399] : List Int32).getD n 0)]
def aMP (G : aG) (ad : Nat → Nat) (h : aH) (sz : Nat) (vs : List Value) : Array Value → State → Prop := va_Pc (vs.map (aV ad)) (fun U => U.heap.size = sz ∧ va_P G.1 vwCl (aWs G ad h) U.heap ∧ va_D (fun _ => True) (aWs G ad h) ∧ aK G aE0 ad (va_A (aWs G ad h) sz) U)
def aMQ (G : aG) (ad : Nat → Nat) (h : aH) (sz : Nat) (Q : Option Value → aH → Prop) : Array Value → State → Outcome → State → Prop := fun _ st oc t =>
  (∃ (r : Option Value) (ad' : Nat → Nat) (h' : aH), oc = .returned (r.map (aV ad')) ∧ aLe h ad h' ad' ∧ Q r h' ∧ va_P G.1 vwCl (aWs G ad' h') t.heap ∧ va_D (va_A (aWs G ad h) sz) (aWs G ad' h')) ∧ va_F (va_A (aWs G ad h) sz) st t
/-- method md's contract: called with vs at the heap h it returns, and Q holds of its answer and of the heap behind it -/
def aM (md : aMd) (vs : List Value) (h : aH) (Q : Option Value → aH → Prop) : Prop :=
  ∀ (l : Launch) (G : aG) (ad : Nat → Nat) (sz : Nat), Met l md.1 (Cond.code md.1 md.2.1 md.2.2.1 md.2.2.2.1 :: aTb) md.2.2.2.2 (aMP G ad h sz vs) (aMQ G ad h sz Q) md.2.2.2.2.cells md.2.2.2.2.slots (va_A (aWs G ad h) sz)
theorem aLv_args (ad : Nat → Nat) : ∀ (vs : List Value) (i : Nat), lv_args i (vs.map (aV ad)) = aLv ad (lv_args i vs)
  | [], _ => rfl
  | v :: vs, i => by
    show (i, aV ad v) :: lv_args (if (aV ad v).category = 2 then i + 2 else i + 1) (vs.map (aV ad)) = (i, aV ad v) :: aLv ad (lv_args (if v.category = 2 then i + 2 else i + 1) vs)
    rw [aV_cat, aLv_args ad vs]
theorem aSl_len (ad : Nat → Nat) : ∀ (vs : List Value), (lg_sl (vs.map (aV ad))).length = (lg_sl vs).length
  | [] => rfl
  | v :: vs => by
    have := aSl_len ad vs
    unfold lg_sl at this ⊢
    simp only [List.map_cons, List.flatMap_cons, List.length_append, aV_cat, this]
    split <;> rfl
theorem aM_of {md : aMd} {vs : List Value} {h : aH} {Q : Option Value → aH → Prop} (hy : plainFor md.1 = true) (hv : (lg_sl vs).length ≤ md.2.2.1) (k : aX md aE0 h 0 (lv_args 0 vs) [] md.2.2.2.2.cells md.2.2.2.2.slots Q) : aM md vs h Q := by
  intro l G ad sz
  refine va_MetF (cc := md.2.1) (maxL := md.2.2.1) (ret := md.2.2.2.1) hy rfl ?_
  intro p e s m args below meth c s₁ B hml hvv
  obtain ⟨rfl, hsz, hP, hD0, hK⟩ := hvv
  have hx := B.exec
  have hb := B.bytes
  have hr := B.returns
  have hts := atoms_spec (ws := Cond.code md.1 md.2.1 md.2.2.1 md.2.2.2.1 :: aTb) B.pre
  have hown : s.vm.findClass md.1.cls = some m.cls := findClass_of_methodNamed B.named
  have hlocks := B.notSynchronized
  have hin : meth.name = md.1.name := (name_of_methodNamed B.named B.method).1
  subst hsz
  have hD := hD0.self (sz := s.heap.size)
  have hl := lv_entry (vs.map (aV ad)) (n := md.2.2.1) (by rw [aSl_len]; exact hv)
  rw [lg_entry_eq]
  rw [aLv_args] at hl
  refine k p l e s m _ below meth c G ad (va_A (aWs G ad h) s.heap.size) s.heap [] 0 0 _ _ ⟨hx, hb, hml, hown, fun w hw => hts w (List.mem_cons_of_mem _ hw), fun z => hin.trans z, hK⟩ ⟨hP, hD, va_S.rf⟩ hl (Nat.le_of_eq (Nat.zero_add _)) (Nat.le_of_eq (Nat.zero_add _)) ?_
  intro ad' h' r H locs cells slots pc ls hLe hR hc1 hc2 hq hret
  refine W.widen (k := md.2.2.2.2.cells) (n := md.2.2.2.2.slots) hc1 hc2 ?_
  have hQ : ∀ t : State, t.heap = H → s.WarmedH t.vm → aMQ G ad h s.heap.size Q (vs.map (aV ad)).toArray s (.returned (r.map (aV ad'))) t := fun t ht _ =>
    ⟨⟨r, ad', h', rfl, hLe, hq, by rw [ht]; exact hR.1, hR.2.1⟩, hR.2.2.F ht⟩
  cases r with
  | none => exact W.vret hx hb (hr.trans hret.2) hQ hR.2.2.2.2 hret.1
  | some v =>
    cases v with
    | int x =>
      obtain ⟨hd, hw | ⟨hw, hx01⟩⟩ := hret
      · exact W.iret (v := x) hx hb (hr.trans hw) hQ hR.2.2.2.2 hd
      · exact W.zret (v := x) (ty := .boolean) hx hb (hr.trans hw) (by rcases hx01 with rfl | rfl <;> rfl) hQ hR.2.2.2.2 hd
    | long x => exact W.lret (v := x) hx hb (hr.trans hret.2) hQ hR.2.2.2.2 hret.1
    | _ => exact hret.elim
theorem aM_mono {md : aMd} {vs : List Value} {h : aH} {Q Q' : Option Value → aH → Prop} (k : aM md vs h Q) (i : ∀ r h', Q r h' → Q' r h') : aM md vs h Q' := by
  intro l G ad sz
  have hk := k l G ad sz
  unfold Met at hk ⊢
  intro p e ha hc hkk s m args below hf happ hP hT
  obtain ⟨t, o, a1, b1, b2, ⟨⟨r, ad', h', e1, e2, e3, e4⟩, hF⟩, b4⟩ := hk p e ha hc hkk s m args below hf happ hP hT
  exact ⟨t, o, a1, b1, b2, ⟨⟨r, ad', h', e1, e2, i r h' e3, e4⟩, hF⟩, b4⟩
theorem aNs_warm {s U : State} (hW : s.WarmedH U.vm) (h : ∀ w ∈ aNs, va_Nw w s) : ∀ w ∈ aNs, va_Nw w U := by
  intro w hw
  have h1 := h w hw
  unfold aNs at hw
  simp only [List.mem_cons, List.not_mem_nil, or_false] at hw
  rcases hw with rfl | rfl | rfl | rfl | rfl | rfl | rfl | rfl | rfl | rfl | rfl <;> first | exact va_Nw.warmF hW h1 | exact va_Nw.warmM hW h1
theorem aAO_alike {s U : State} (hvm : s.vm.Alike U.vm) (h : va_Nw (.arrayOver (.array .long)) s) : va_Nw (.arrayOver (.array .long)) U :=
  (show (Cond.arrayOver (.array .long)).before #[] (s.setVm U.vm) = true by rw [Cond.arrayOver_setVmC hvm]; exact h)
/-- what a callee's start knows, out of the caller's -/
theorem aK_call {G : aG} {E : aE} {ad : Nat → Nat} {h : aH} {A : Nat → Prop} {s U : State} {H : Heap} {locs : List Loc} (hE : ∀ (i : Nat) (q : Nat × (Nat → Int32)), aE0[i]? = some q → E[i]? = some q) (hK : aK G E ad A s) (hR : aR G ad h A s H locs) (hU : U.heap = H) (hW : s.WarmedH U.vm) : aK G aE0 ad (va_A (aWs G ad h) H.size) U := by
  obtain ⟨k1, k2, k3, k4, k5, k6, k7, k8⟩ := hK
  have hAA : ∀ q, va_A (aWs G ad h) H.size q → A q := by
    intro q hq
    rcases hq with ⟨k, e, hq⟩ | hq
    · exact hR.2.1.2 k (q, e) hq
    · exact k2 q (Nat.le_trans hR.2.2.1 hq)
  have hkeep : ∀ a : Nat, a < s.heap.size → ¬ A a → H[a]? = s.heap[a]? := hR.2.2.2.1
  refine ⟨k1.moved hW.alike, fun q hq => Or.inr (by rw [← hU]; exact hq), Nat.le_of_ble_eq_true rfl, fun i q hq => ?_, fun i nm hi => ?_, aNs_warm hW k6, k7.moved hW.alike, aAO_alike hW.alike k8⟩
  · rw [hU]
    exact ((k4 i q (hE i q hq)).kept hkeep |>.moved hW.alike).narrow hAA
  · rw [hU]
    exact ((k5 i nm hi).kept hkeep |>.moved hW.alike).narrow hAA
theorem aMP_blind {G : aG} {ad : Nat → Nat} {h : aH} {sz : Nat} {vs : List Value} : FrameBlind (aMP G ad h sz vs) := by
  intro a U g mk hq
  obtain ⟨q0, q1, q2, q3, k1, k2, k3, k4, k5, k6, k7, k8⟩ := hq
  exact ⟨q0, q1, q2, q3, va_K.moved (u := U) (U := U.calling g mk a) (Vm.Alike.refl U.vm) k1, k2, k3, fun i q hi => va_T.moved (u := U) (U := U.calling g mk a) (Vm.Alike.refl U.vm) (k4 i q hi), fun i nm hi => va_Z.moved (u := U) (U := U.calling g mk a) (Vm.Alike.refl U.vm) (k5 i nm hi), fun w hw => va_tabs (show w.onTables = true by
    unfold aNs at hw
    simp only [List.mem_cons, List.not_mem_nil, or_false] at hw
    rcases hw with rfl | rfl | rfl | rfl | rfl | rfl | rfl | rfl | rfl | rfl | rfl <;> rfl) (rfl : U.vm = (U.calling g mk a).vm) (k6 w hw), va_AO.moved (u := U) (U := U.calling g mk a) (Vm.Alike.refl U.vm) k7, k8⟩
theorem aMP_at {G : aG} {E : aE} {ad : Nat → Nat} {h : aH} {A : Nat → Prop} {s U : State} {H : Heap} {locs : List Loc} {vs : List Value} (hE : ∀ (i : Nat) (q : Nat × (Nat → Int32)), aE0[i]? = some q → E[i]? = some q) (hK : aK G E ad A s) (hR : aR G ad h A s H locs) (hU : U.heap = H) (hW : s.WarmedH U.vm) : aMP G ad h H.size vs (vs.map (aV ad)).toArray U :=
  ⟨rfl, by rw [hU], by rw [hU]; exact hR.1, hR.2.1.weaken (fun _ _ _ _ => trivial), aK_call hE hK hR hU hW⟩
/-- behind a call -/
theorem aCall {p : Program} {l : Launch} {e : Env} {R : Room} {s : State} {m : MethodId} {args : Array Value} {below : List Frame} {meth : Method} {c : Code} {H : Heap} {locs : List Loc} {cells slots mc ms : Nat} {Qm : State → Prop} {pc : Nat} {ls : Array Slot} {rest st0 : List Value} {a : Array Value} {G : aG} {ad : Nat → Nat} {h : aH} {A : Nat → Prop} {Q' : Option Value → aH → Prop}
    (hr : va_Run p l e R s m args below meth c H locs cells slots mc ms (F0 m pc ls st0) rest (aMQ G ad h H.size Q' a) (va_A (aWs G ad h) H.size)) (hA : ∀ q : Nat, s.heap.size ≤ q → A q) (hR : aR G ad h A s H locs)
    (kk : ∀ (r : Option Value) (ad' : Nat → Nat) (h' : aH) (H1 : Heap) (locs1 : List Loc), aLe h ad h' ad' → Q' r h' → aR G ad' h' A s H1 locs1 → W p l e R s m args below meth c H1 locs1 (cells + mc) (slots + ms) Qm (F0 m (pc + 3) ls ((r.map (aV ad')).toList ++ rest))) : W p l e R s m args below meth c H locs cells slots Qm (F0 m pc ls st0) := by
  have hAA : ∀ q, va_A (aWs G ad h) H.size q → A q := by
    intro q hq
    rcases hq with ⟨k, e, hq⟩ | hq
    · exact hR.2.1.2 k (q, e) hq
    · exact hA q (Nat.le_trans hR.2.2.1 hq)
  have hS := hR.2.2
  intro T hT X
  obtain ⟨v, st₀, t, T', L, h0, X', hL, e1, e2, ⟨⟨r, ad', h', hv, hLe, hq, hP', hD'⟩, hz, hk⟩, st⟩ := hr T hT X
  cases hv
  rw [h0] at hz hk
  obtain ⟨t2, a1, b1⟩ := kk r ad' h' T'.heap (locs ++ L) hLe hq ⟨by rw [e1]; exact hP', hD'.weaken (fun k q _ hq => hAA q.1 hq), Nat.le_trans hS.1 (by rw [e1]; exact hz), fun q g1 g2 => by rw [e1, hk q (Nat.lt_of_lt_of_le g1 hS.1) (fun z => g2 (hAA q z))]; exact hS.2.1 q g1 g2, fun q hq => by
      rcases List.mem_append.mp hq with g | g
      · exact hS.2.2 q g
      · exact hAA _ (hL q g)⟩ T' rfl X'
  exact ⟨t2, st t2 a1, b1⟩
/-- the words of a method -/
def aWm (md : aMd) : Prop := Cond.code md.1 md.2.1 md.2.2.1 md.2.2.2.1 ∈ aTb ∧ Cond.initialized md.1.cls ∈ aTb ∧ md.1.cls ≠ "java/lang/invoke/MethodHandle" ∧ md.1.cls ≠ "java/lang/invoke/VarHandle"
def aRm (md md' : aMd) : Prop := md'.2.2.2.2.frames + 1 ≤ md.2.2.2.2.frames ∧ 8 + (md'.2.2.1 + 11) + md'.2.2.2.2.locals ≤ md.2.2.2.2.locals
def aPn (md : aMd) (n : Nat) : Prop := (parseMethodDescriptor md.1.desc).map (fun d => d.parameters.length) = some n
theorem aTb_good {w : Cond} (h : w ∈ aTb) : goodWord w = true := (List.mem_filter.mp h).2
theorem aGood {md : aMd} (h : aWm md) : GoodIn aTb (Cond.code md.1 md.2.1 md.2.2.1 md.2.2.2.1 :: aTb) := by
  intro w hw
  rcases List.mem_cons.mp hw with rfl | hw
  · exact ⟨h.1, good_of_word (aTb_good h.1)⟩
  · exact ⟨hw, good_of_word (aTb_good hw)⟩
theorem aCat (ad : Nat → Nat) (st : List Value) : ((st.map (aV ad)).map fun v => v.category) = st.map fun v => v.category := by
  rw [List.map_map]
  exact List.map_congr_left (fun v _ => aV_cat ad v)
theorem aLv_keep {ad ad' : Nat → Nat} {lv : List (Nat × Value)} (h : ∀ q ∈ lv, aV ad' q.2 = aV ad q.2) : aLv ad' lv = aLv ad lv := List.map_congr_left (fun q hq => by rw [h q hq])
theorem aK_ad {G : aG} {E : aE} {ad ad' : Nat → Nat} {A : Nat → Prop} {s : State} (h : ∀ k, k < 8 → ad' k = ad k) (hK : aK G E ad A s) : aK G E ad' A s := by
  obtain ⟨k1, k2, k3, k4, k5, k6⟩ := hK
  refine ⟨k1, k2, k3, fun i q hq => ?_, fun i nm hi => ?_, k6⟩
  · have := (List.getElem?_eq_some_iff.mp hq).1
    rw [h i (by omega)]
    exact k4 i q hq
  · have := (List.getElem?_eq_some_iff.mp hi).1
    have h7 : aSt.length = 7 := rfl
    rw [h i (by omega)]
    exact k5 i nm hi
section ACALL
variable {md md' : aMd} {E : aE} {h : aH} {pc : Nat} {lv : List (Nat × Value)} {st stk : List Value} {bc bs : Nat} {Q Q' : Option Value → aH → Prop}
/-- a call that makes no cell -/
theorem aX_callV {idx q ci z n : Nat} {As : List Value} {C : String} {T : u_T} {N : Nat} (hd : decode md.2.1 pc = .ok (.invokevirtual idx, 3)) (hw : aWm md') (hl1 : Cond.methodLink md.1.cls idx md'.1 ∈ aTb) (hl2 : Cond.instanceMethod md'.1 ∈ aTb) (hl3 : Cond.selects md'.1.cls md'.1 md'.1 ∈ aTb) (hc : vwCl[ci]? = some (C, T, N)) (hcn : C = md'.1.cls) (hpn : aPn md' n) (hrm : aRm md md') (hs : aSh h q = some (10 + ci, z)) (hn : As.length = n) (hstk : stk = As.reverse ++ .ref q :: st) (hcat : (st.map fun v => v.category).sum ≤ 8)
    (hE : ∀ (i : Nat) (q : Nat × (Nat → Int32)), aE0[i]? = some q → E[i]? = some q) (hM : aM md' (.ref q :: As) h Q') (h0 : md'.2.2.2.2.cells = 0 ∧ md'.2.2.2.2.slots = 0) (k : ∀ r h', Q' r h' → h'.1.length = h.1.length ∧ aX md E h' (pc + 3) lv (r.toList ++ st) bc bs Q) : aX md E h pc lv stk bc bs Q := by
  subst hstk
  intro p l e s m args below meth c G ad A H locs cells slots ls Qm CC hR hl h1 h2 F
  have hts := CC.2.2.2.2.1
  have hK := CC.2.2.2.2.2.2
  refine aCall (rest := st.map (aV ad)) (Q' := Q') (va_runV (y := md'.1) (cc := md.2.1) (nL := md.2.2.1) (own := md.1.cls) (C := md'.1.cls) (b := ad q) (As := As.map (aV ad)) (rest := st.map (aV ad)) (index := idx) ⟨CC.1, CC.2.1, CC.2.2.1, CC.2.2.2.1, hts⟩ (hM l G ad H.size) ⟨callB_of n hts (aGood hw) rfl rfl rfl (hts _ hw.2.1) (hts _ hl1) ⟨hw.2.2.1, hw.2.2.2, hpn⟩ hrm, hts _ hl2, hts _ hl3⟩ ⟨aMP_blind, ?_, fun U hU hW => aMP_at hE hK hR hU hW⟩ rfl (by rw [List.length_map]; exact hn) hl.1 ?_ (lv_room (by rw [aCat]; exact hcat)) hd ⟨by omega, by omega⟩) hK.2.1 hR ?_
  · have := va_recv (D := G.1) (ci := ci) (q0 := q - 8) hK.1 hR.1 hc ((aWs_get hs).trans (by rw [aEnt_obj]))
    rw [show (C, T, N).1 = md'.1.cls from hcn] at this
    exact this
  · rw [List.map_append, List.map_reverse]
    rfl
  · intro r ad' h' H1 locs1 hLe hq hR'
    obtain ⟨k1, k2⟩ := k r h' hq
    have ha : ad' = ad := hLe.2.2 k1
    subst ha
    have e := k2 p l e s m args below meth c G ad' A H1 locs1 (cells + md'.2.2.2.2.cells) (slots + md'.2.2.2.2.slots) ls Qm CC hR' hl (by omega) (by omega) (F.tr hLe)
    rw [List.map_append] at e
    cases r <;> exact e
theorem aX_callS {idx n : Nat} {As : List Value} (hd : decode md.2.1 pc = .ok (.invokestatic idx, 3)) (hw : aWm md') (hl1 : Cond.methodLink md.1.cls idx md'.1 ∈ aTb) (hl2 : Cond.static md'.1 ∈ aTb) (hpn : aPn md' n) (hrm : aRm md md') (hn : As.length = n) (hstk : stk = As.reverse ++ st) (hcat : (st.map fun v => v.category).sum ≤ 8)
    (hE : ∀ (i : Nat) (q : Nat × (Nat → Int32)), aE0[i]? = some q → E[i]? = some q) (hM : aM md' As h Q') (h0 : md'.2.2.2.2.cells = 0 ∧ md'.2.2.2.2.slots = 0) (k : ∀ r h', Q' r h' → h'.1.length = h.1.length ∧ aX md E h' (pc + 3) lv (r.toList ++ st) bc bs Q) : aX md E h pc lv stk bc bs Q := by
  subst hstk
  intro p l e s m args below meth c G ad A H locs cells slots ls Qm CC hR hl h1 h2 F
  have hts := CC.2.2.2.2.1
  have hK := CC.2.2.2.2.2.2
  refine aCall (rest := st.map (aV ad)) (Q' := Q') (va_runS (y := md'.1) (cc := md.2.1) (nL := md.2.2.1) (own := md.1.cls) (As := As.map (aV ad)) (rest := st.map (aV ad)) (index := idx) ⟨CC.1, CC.2.1, CC.2.2.1, CC.2.2.2.1, hts⟩ (hM l G ad H.size) ⟨callB_of n hts (aGood hw) rfl rfl rfl (hts _ hw.2.1) (hts _ hl1) ⟨hw.2.2.1, hw.2.2.2, hpn⟩ hrm, hts _ hl2⟩ ⟨aMP_blind, fun U hU hW => aMP_at hE hK hR hU hW⟩ rfl (by rw [List.length_map]; exact hn) hl.1 ?_ (lv_room (by rw [aCat]; exact hcat)) hd ⟨by omega, by omega⟩) hK.2.1 hR ?_
  · rw [List.map_append, List.map_reverse]
  · intro r ad' h' H1 locs1 hLe hq hR'
    obtain ⟨k1, k2⟩ := k r h' hq
    have ha : ad' = ad := hLe.2.2 k1
    subst ha
    have e := k2 p l e s m args below meth c G ad' A H1 locs1 (cells + md'.2.2.2.2.cells) (slots + md'.2.2.2.2.slots) ls Qm CC hR' hl (by omega) (by omega) (F.tr hLe)
    rw [List.map_append] at e
    cases r <;> exact e
end ACALL
