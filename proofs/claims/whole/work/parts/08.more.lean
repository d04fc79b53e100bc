/-! CONSTRUCTORS CALLED; System.arraycopy -/
theorem aOkV_eq {ad ad' : Nat → Nat} {n : Nat} {v : Value} (h : aOkV n v = true) (ha : ∀ k, k < n → ad' k = ad k) : aV ad' v = aV ad v := by
  cases v with
  | ref k => exact congrArg Value.ref (ha k (of_decide_eq_true h))
  | _ => rfl
theorem aOkL_eq {ad ad' : Nat → Nat} {n : Nat} {lv : List (Nat × Value)} {st : List Value} (h : aOkL n lv st = true) (ha : ∀ k, k < n → ad' k = ad k) : aLv ad' lv = aLv ad lv ∧ st.map (aV ad') = st.map (aV ad) := by
  unfold aOkL at h
  rw [Bool.and_eq_true, List.all_eq_true, List.all_eq_true] at h
  exact ⟨aLv_keep (fun x hx => aOkV_eq (h.1 x hx) ha), List.map_congr_left (fun v hv => aOkV_eq (h.2 v hv) ha)⟩
section ACI
variable {md md' : aMd} {E : aE} {h : aH} {pc : Nat} {lv : List (Nat × Value)} {st stk : List Value} {bc bs : Nat} {Q Q' : Option Value → aH → Prop}
theorem aX_callI {idx q n : Nat} {As : List Value} (hd : decode md.2.1 pc = .ok (.invokespecial idx, 3)) (hw : aWm md') (hl1 : Cond.methodLink md.1.cls idx md'.1 ∈ aTb ∨ Cond.methodLinkNest md.1.cls idx md'.1 "JustMoves" ∈ aNs) (hl2 : Cond.instanceMethod md'.1 ∈ aTb) (hnm : md'.1.name = "<init>") (hret : md'.2.2.2.1 = none) (hpn : aPn md' n) (hrm : aRm md md') (hn : As.length = n) (hstk : stk = As.reverse ++ .ref q :: st) (hcat : (st.map fun v => v.category).sum ≤ 8)
    (hE : ∀ (i : Nat) (q : Nat × (Nat → Int32)), aE0[i]? = some q → E[i]? = some q) (hok : aOkL (8 + h.1.length) lv st = true) (hM : aM md' (.ref q :: As) h Q') (hbc : md'.2.2.2.2.cells ≤ bc) (hbs : md'.2.2.2.2.slots ≤ bs) (k : ∀ r h', Q' r h' → h.1.length ≤ h'.1.length → r = none ∧ aX md E h' (pc + 3) lv st (bc - md'.2.2.2.2.cells) (bs - md'.2.2.2.2.slots) Q) : aX md E h pc lv stk bc bs Q := by
  subst hstk
  intro p l e s m args below meth c G ad A H locs cells slots ls Qm CC hR hl h1 h2 F
  have hts := CC.2.2.2.2.1
  have hK := CC.2.2.2.2.2.2
  have hgo : ∀ (r : Option Value) (ad' : Nat → Nat) (h' : aH) (H1 : Heap) (locs1 : List Loc), aLe h ad h' ad' → Q' r h' → aR G ad' h' A s H1 locs1 → W p l e md.2.2.2.2 s m args below meth c H1 locs1 (cells + md'.2.2.2.2.cells) (slots + md'.2.2.2.2.slots) Qm (F0 m (pc + 3) ls ((r.map (aV ad')).toList ++ st.map (aV ad))) := by
    intro r ad' h' H1 locs1 hLe hq hR'
    obtain ⟨k1, k2⟩ := k r h' hq hLe.1
    subst k1
    obtain ⟨w1, w2⟩ := aOkL_eq hok hLe.2.1
    have e := k2 p l e s m args below meth c G ad' A H1 locs1 (cells + md'.2.2.2.2.cells) (slots + md'.2.2.2.2.slots) ls Qm (aCtx_ad CC (fun k hk => hLe.2.1 k (by omega))) hR' (by rw [w1]; exact hl) (by omega) (by omega) (F.tr hLe)
    rw [w2] at e
    exact e
  have hstk : (As.reverse ++ Value.ref q :: st).map (aV ad) = (As.map (aV ad)).reverse ++ Value.ref (ad q) :: st.map (aV ad) := by
    rw [List.map_append, List.map_reverse]
    rfl
  have hws : (Cond.code md'.1 md'.2.1 md'.2.2.1 md'.2.2.2.1 :: aTb) = Cond.code md'.1 md'.2.1 md'.2.2.1 none :: aTb := by rw [hret]
  rcases hl1 with hl1 | hl1
  · exact aCall (rest := st.map (aV ad)) (Q' := Q') (va_runI (y := md'.1) (cc := md.2.1) (nL := md.2.2.1) (own := md.1.cls) (b := ad q) (As := As.map (aV ad)) (rest := st.map (aV ad)) (index := idx) ⟨CC.1, CC.2.1, CC.2.2.1, CC.2.2.2.1, hts⟩ (hM l G ad H.size) ⟨callB_of n hts (aGood hw) hws rfl rfl (hts _ hw.2.1) (hts _ hl1) ⟨hw.2.2.1, hw.2.2.2, hpn⟩ hrm, hnm, hts _ hl2⟩ ⟨aMP_blind, fun U hU hW => aMP_at hE hK hR hU hW⟩ rfl (by rw [List.length_map]; exact hn) hl.1 hstk (lv_room (by rw [aCat]; exact hcat)) hd ⟨by omega, by omega⟩) hK.2.1 hR hgo
  · exact aCall (rest := st.map (aV ad)) (Q' := Q') (va_runIN (y := md'.1) (cc := md.2.1) (nL := md.2.2.1) (own := md.1.cls) (host := "JustMoves") (b := ad q) (As := As.map (aV ad)) (rest := st.map (aV ad)) (index := idx) ⟨CC.1, CC.2.1, CC.2.2.1, CC.2.2.2.1, hts⟩ (hM l G ad H.size) ⟨va_cnB n hts (aGood hw) hws rfl rfl (hK.2.2.2.2.2.1 _ hl1) (hts _ hw.2.1) ⟨hw.2.2.1, hw.2.2.2, hpn⟩ hrm, hnm, hts _ hl2⟩ ⟨aMP_blind, fun U hU hW => aMP_at hE hK hR hU hW⟩ rfl (by rw [List.length_map]; exact hn) hl.1 hstk (lv_room (by rw [aCat]; exact hcat)) hd ⟨by omega, by omega⟩) hK.2.1 hR hgo
/-- the words of System.arraycopy -/
def aWc (own : String) (idx : Nat) : Prop := Cond.methodLink own idx arraycopyName ∈ aTb ∧ Cond.native arraycopyName ∈ aTb ∧ Cond.static arraycopyName ∈ aTb ∧ Cond.initialized "java/lang/System" ∈ aTb
theorem aX_copyi {idx q0 q1 n0 n1 : Nat} {sp dp n : Int32} (hd : decode md.2.1 pc = .ok (.invokestatic idx, 3)) (hw : aWc md.1.cls idx) (hs0 : aSh h q0 = some (0, n0)) (hs1 : aSh h q1 = some (0, n1)) (g1 : ¬ sp < 0) (g2 : ¬ dp < 0) (g3 : ¬ n < 0) (g4 : sp.toNatClampNeg + n.toNatClampNeg ≤ n0) (g5 : dp.toNatClampNeg + n.toNatClampNeg ≤ n1) (hf : 1 ≤ md.2.2.2.2.frames) (hlo : (st.map fun v => v.category).sum + 18 ≤ md.2.2.2.2.locals)
    (k : aX md E (h.1, aUr h.2.1 q1 (va_cpy (h.2.1 q0) (h.2.1 q1) sp.toNatClampNeg dp.toNatClampNeg n.toNatClampNeg), h.2.2) (pc + 3) lv st bc bs Q) : aX md E h pc lv (.int n :: .int dp :: .ref q1 :: .int sp :: .ref q0 :: st) bc bs Q := by
  intro p l e s m args below meth c G ad A H locs cells slots ls Qm CC hR hl h1 h2 F
  have hts := CC.2.2.2.2.1
  exact va_copyi (D := G.1) CC.1 CC.2.1 (CC.2.2.1.trans hl.1.symm) CC.2.2.2.1 (hts _ hw.1) (hts _ hw.2.1) (hts _ hw.2.2.1) (hts _ hw.2.2.2) CC.2.2.2.2.2.2.1 hR.1 hR.2.1 hR.2.2 (q0 - 8) (q1 - 8) 0 0 (aWs_get hs0) (aWs_get hs1) rfl rfl rfl g1 g2 g3 g4 g5 (fun _ _ => rfl) hf (by rw [aCat]; exact hlo) hd (fun H1 locs1 a1 a2 a3 => k p l e s m args below meth c G ad A H1 locs1 cells slots ls Qm CC (aR_set hs1 rfl (by show Sum.inl (G.2 0, n1, Sum.inl (aUr h.2.1 q1 _ q1)) = _; rw [aUr_s]) (fun k9 h9 z9 => by refine aEnt_same ?_ ?_ ?_ z9 <;> first | rfl | exact aUr_o h9) a1 a2 a3) hl h1 h2 (F.tr (aLe.rf rfl)))
theorem aX_copyl {idx q0 q1 n0 n1 : Nat} {sp dp n : Int32} (hd : decode md.2.1 pc = .ok (.invokestatic idx, 3)) (hw : aWc md.1.cls idx) (hs0 : aSh h q0 = some (3, n0)) (hs1 : aSh h q1 = some (3, n1)) (g1 : ¬ sp < 0) (g2 : ¬ dp < 0) (g3 : ¬ n < 0) (g4 : sp.toNatClampNeg + n.toNatClampNeg ≤ n0) (g5 : dp.toNatClampNeg + n.toNatClampNeg ≤ n1) (hf : 1 ≤ md.2.2.2.2.frames) (hlo : (st.map fun v => v.category).sum + 18 ≤ md.2.2.2.2.locals)
    (k : aX md E (h.1, h.2.1, aUr h.2.2.1 q1 (va_cpy (h.2.2.1 q0) (h.2.2.1 q1) sp.toNatClampNeg dp.toNatClampNeg n.toNatClampNeg), h.2.2.2) (pc + 3) lv st bc bs Q) : aX md E h pc lv (.int n :: .int dp :: .ref q1 :: .int sp :: .ref q0 :: st) bc bs Q := by
  intro p l e s m args below meth c G ad A H locs cells slots ls Qm CC hR hl h1 h2 F
  have hts := CC.2.2.2.2.1
  exact va_copyl (D := G.1) CC.1 CC.2.1 (CC.2.2.1.trans hl.1.symm) CC.2.2.2.1 (hts _ hw.1) (hts _ hw.2.1) (hts _ hw.2.2.1) (hts _ hw.2.2.2) CC.2.2.2.2.2.2.1 hR.1 hR.2.1 hR.2.2 (q0 - 8) (q1 - 8) 3 3 (aWs_get hs0) (aWs_get hs1) rfl rfl rfl g1 g2 g3 g4 g5 (fun _ _ => rfl) hf (by rw [aCat]; exact hlo) hd (fun H1 locs1 a1 a2 a3 => k p l e s m args below meth c G ad A H1 locs1 cells slots ls Qm CC (aR_set hs1 rfl (by show Sum.inl (G.2 3, n1, Sum.inr (Sum.inl (aUr h.2.2.1 q1 _ q1))) = _; rw [aUr_s]) (fun k9 h9 z9 => by refine aEnt_same ?_ ?_ ?_ z9 <;> first | rfl | exact aUr_o h9) a1 a2 a3) hl h1 h2 (F.tr (aLe.rf rfl)))
/-- from a static array -/
theorem aX_copye {idx q0 q1 n0 n1 : Nat} {f : Nat → Int32} {sp dp n : Int32} (hd : decode md.2.1 pc = .ok (.invokestatic idx, 3)) (hw : aWc md.1.cls idx) (hs0 : E[q0]? = some (n0, f)) (hs1 : aSh h q1 = some (0, n1)) (g1 : ¬ sp < 0) (g2 : ¬ dp < 0) (g3 : ¬ n < 0) (g4 : sp.toNatClampNeg + n.toNatClampNeg ≤ n0) (g5 : dp.toNatClampNeg + n.toNatClampNeg ≤ n1) (hf : 1 ≤ md.2.2.2.2.frames) (hlo : (st.map fun v => v.category).sum + 18 ≤ md.2.2.2.2.locals)
    (k : aX md E (h.1, aUr h.2.1 q1 (va_cpy f (h.2.1 q1) sp.toNatClampNeg dp.toNatClampNeg n.toNatClampNeg), h.2.2) (pc + 3) lv st bc bs Q) : aX md E h pc lv (.int n :: .int dp :: .ref q1 :: .int sp :: .ref q0 :: st) bc bs Q := by
  intro p l e s m args below meth c G ad A H locs cells slots ls Qm CC hR hl h1 h2 F
  have hts := CC.2.2.2.2.1
  obtain ⟨cell, e1, ⟨e2, ks, hks, cmS, hkS⟩, e3, e4, e5, e6, e7⟩ := CC.2.2.2.2.2.2.2.2.2.1 q0 _ hs0
  have nn : ∀ z : Int32, ¬ z < 0 → z.toInt = (z.toNatClampNeg : Int) := by
    intro z hz
    have hz0 : (0 : Int) ≤ z.toInt := by simpa using Int32.le_iff_toInt_le.mp (Int32.not_lt.mp hz)
    show z.toInt = ((z.toInt.toNat : Nat) : Int)
    omega
  have hP := hR.1
  have hD := hR.2.1
  have hS := hR.2.2
  have ha1 := aWs_get (G := G) (ad := ad) hs1
  have hc0 : H[ad q0]? = some cell := by rw [hS.2.1 (ad q0) (Array.getElem?_eq_some_iff.mp e1).1 e7]; exact e1
  have hc1 : H[ad q1]? = some (vp_cell (G.2 0) (n1, .inl (h.2.1 q1))) := hP (q1 - 8) _ ha1
  have hl1 : ad q1 < H.size := (Array.getElem?_eq_some_iff.mp hc1).1
  obtain ⟨-, k1, hk1, cm1, hkk1⟩ := (CC.2.2.2.2.2.2.1.2 0 _ rfl).1 n1 (fun j => .int (h.2.1 q1 j))
  have hcp : copied cell (vp_cell (G.2 0) (n1, .inl (h.2.1 q1))) sp dp n = vp_cell (G.2 0) (n1, .inl (va_cpy f (h.2.1 q1) sp.toNatClampNeg dp.toNatClampNeg n.toNatClampNeg)) := va_copiedX (fun z => .int z) cell (G.2 0) f (h.2.1 q1) e6 g4
  intro T hT X
  obtain ⟨vm', X', step⟩ := X.arraycopy CC.1 CC.2.2.2.1 (hts _ hw.1) (hts _ hw.2.1) (hts _ hw.2.2.1) (hts _ hw.2.2.2) (src := ad q0) (dst := ad q1) (cs := cell) (cd := vp_cell (G.2 0) (n1, .inl (h.2.1 q1))) (srcPos := sp) (destPos := dp) (n := n) (by rw [hT]; exact hc0) (by rw [hT]; exact hc1)
    e2 (fun _ z => by cases z) e3 (fun z => by cases z) hks hk1 hkS hkk1 (by simp [refKind]) g1 g2 g3
    (by rw [nn sp g1, nn n g3]; have e4' : n0 ≤ cell.slots.size := e4; omega)
    (by rw [nn dp g2, nn n g3]; show ¬ _ > ((arrV (G.2 0) n1 (fun j => .int (h.2.1 q1 j))).slots.size : Int); rw [arrV_size]; omega)
    (fun vm₁ _ i hi => by
      have e : cell.slots.getD (sp.toNatClampNeg + i) .null = .int (f (sp.toNatClampNeg + i)) := by
        rw [Array.getD_eq_getD_getElem?, e6 _ (by show _ < n0; omega)]
        rfl
      rw [e]
      exact ⟨rfl, trivial⟩)
    (g := F0 m pc ls (.int n :: .int dp :: .ref (ad q1) :: .int sp :: .ref (ad q0) :: st.map (aV ad))) rfl (by rw [CC.2.2.1]; exact hl.1) (rest := st.map (aV ad)) rfl (by rw [CC.2.1]; exact hd) hf (by show 2 * 0 + ((st.map (aV ad)).map fun v => v.category).sum + 18 ≤ _; rw [aCat]; omega)
  rw [hcp] at X' step
  have oq : ∀ q : Nat, q ≠ ad q1 → (H.setIfInBounds (ad q1) (vp_cell (G.2 0) (n1, .inl (va_cpy f (h.2.1 q1) sp.toNatClampNeg dp.toNatClampNeg n.toNatClampNeg))))[q]? = H[q]? := fun q hq => by simp [Array.getElem?_setIfInBounds, Ne.symm hq]
  have hP1 := hP.set hD ha1 (e := .inl (G.2 0, n1, .inl (va_cpy f (h.2.1 q1) sp.toNatClampNeg dp.toNatClampNeg n.toNatClampNeg))) (show (H.setIfInBounds (ad q1) _)[ad q1]? = some _ by simp [Array.getElem?_setIfInBounds, hl1]) oq
  obtain ⟨t, a1, b1⟩ := k p l e s m args below meth c G ad A _ _ cells slots ls Qm CC (aR_set hs1 rfl (by show Sum.inl (G.2 0, n1, Sum.inl (aUr h.2.1 q1 _ q1)) = _; rw [aUr_s]) (fun k9 h9 z9 => by refine aEnt_same ?_ ?_ ?_ z9 <;> first | rfl | exact aUr_o h9) hP1 (hD.set ha1) ⟨by simp; exact hS.1, fun q y1 y2 => by
      rw [oq q (fun e => y2 (by rw [e]; exact hD.2 _ _ ha1))]
      exact hS.2.1 q y1 y2, fun q hq => by
      rcases List.mem_append.mp hq with y | y
      · exact hS.2.2 q y
      · obtain ⟨z, -, hz⟩ := List.mem_map.mp y
        rw [← hz]
        exact hD.2 _ _ ha1⟩) hl h1 h2 (F.tr (aLe.rf rfl)) ((T.setVm vm').setCell (ad q1) (vp_cell (G.2 0) (n1, .inl (va_cpy f (h.2.1 q1) sp.toNatClampNeg dp.toNatClampNeg n.toNatClampNeg)))) (by rw [← hT]; rfl) X'
  exact ⟨t, step t a1, b1⟩
end ACI
