/-! THE REFERENCE: choose, its loops -/
theorem tgRep_of {I : Nat → Nat → Int32} {s : jN} {r : jR} {k rd : Nat} {q : Nat × Nat} (hq : (jS s)[k]? = some q) (h : ∀ m, m < s.1 → jOn s m q.1 = true → I 181 (16 * (64 * k + rd) + m) = jTg s r q.1 rd m) : tgRep I s r k rd := by
  intro m hm hon
  have e := jB_of hq
  rw [e] at hon ⊢
  exact h m hm hon
def tgAll (I : Nat → Nat → Int32) (s : jN) (r : jR) (k0 : Nat) : Prop := ∀ (k : Nat) (q : Nat × Nat) (rd m : Nat), k < k0 → (jS s)[k]? = some q → rd < jCo s r q.1 → m < s.1 → jOn s m q.1 = true → I 181 (16 * (64 * k + rd) + m) = jTg s r q.1 rd m
theorem bI_and1 (a : Bool) : bI a &&& nI 1 = bI a := by cases a <;> rfl
theorem bI_and0 (a : Bool) : bI a &&& nI 0 = bI false := by cases a <;> rfl
theorem bI_or1 (a : Bool) : bI a ||| nI 1 = bI true := by cases a <;> rfl
theorem bI_or0 (a : Bool) : bI a ||| nI 0 = bI a := by cases a <;> rfl
theorem least_pos {s : jN} {r : jR} (h : ∀ (k : Nat) (q : Nat × Nat), (jS s)[k]? = some q → 0 < jCo s r q.1) : jLeast s r ≠ 0 := by
  have gen : ∀ (l : List Nat) (a : Nat), 0 < a → (∀ x, x ∈ l → 0 < x) → 0 < l.foldl min a := by
    intro l
    induction l with
    | nil => intro a ha _; exact ha
    | cons y l ih => intro a ha hl; exact ih (min a y) (by have := hl y (List.mem_cons_self ..); omega) (fun x hx => hl x (List.mem_cons_of_mem _ hx))
  have := gen (jCnts s r) 64 (by decide) (fun x hx => by
    unfold jCnts at hx
    obtain ⟨q, hq, rfl⟩ := List.mem_map.mp hx
    obtain ⟨k, hk⟩ := List.getElem?_of_mem hq
    exact h k q hk)
  unfold jLeast; omega
theorem most_le {s : jN} {r : jR} (h : ∀ (k : Nat) (q : Nat × Nat), (jS s)[k]? = some q → jCo s r q.1 ≤ 64) : jMost s r ≤ 64 := by
  have gen : ∀ (l : List Nat) (a : Nat), a ≤ 64 → (∀ x, x ∈ l → x ≤ 64) → l.foldl max a ≤ 64 := by
    intro l
    induction l with
    | nil => intro a ha _; exact ha
    | cons y l ih => intro a ha hl; exact ih (max a y) (Nat.max_le.mpr ⟨ha, hl y (List.mem_cons_self ..)⟩) (fun x hx => hl x (List.mem_cons_of_mem _ hx))
  exact gen (jCnts s r) 0 (by decide) (fun x hx => by
    unfold jCnts at hx
    obtain ⟨q, hq, rfl⟩ := List.mem_map.mp hx
    obtain ⟨k, hk⟩ := List.getElem?_of_mem hq
    exact h k q hk)
theorem least_le {s : jN} {r : jR} {k : Nat} {q : Nat × Nat} (hq : (jS s)[k]? = some q) : jLeast s r ≤ jCo s r q.1 := (fold_min (a := 0) (jCnts s r) 64).2 _ (List.mem_of_getElem? (jCnts_at hq))
theorem most_ge {s : jN} {r : jR} {k : Nat} {q : Nat × Nat} (hq : (jS s)[k]? = some q) : jCo s r q.1 ≤ jMost s r := (fold_max (jCnts s r) 0).2 _ (List.mem_of_getElem? (jCnts_at hq))
set_option maxHeartbeats 1000000 in
theorem mc_p1 {I : Nat → Nat → Int32} {L : Nat → Nat → Int64} {R : Nat → Nat → Option Nat} (hR : aRf R) {s : jN} (hs : mnRep I s) (ho : jOk s) (h6 : jSix s) (hS : msRep I s (jS s)) {r : jR} (hl : mlRep I r) (hcn : mcRep I s r) {Q : Option Value → aH → Prop} (k2 : ((jS s).length = 0 ∨ jLeast s r = 0) → Q (some (.long (-2))) (sh0, I, L, R)) (k3 : ¬ ((jS s).length = 0 ∨ jLeast s r = 0) → 64 < jMost s r → Q (some (.long (-3))) (sh0, I, L, R)) (kk : ¬ ((jS s).length = 0 ∨ jLeast s r = 0) → ¬ 64 < jMost s r → aX mX11_choose aE0 (sh0, I, L, R) 83 [(0, .ref 159), (1, .int (bI true)), (2, .int (bI false)), (3, .int (nI (jS s).length))] [] 0 0 Q) : ∀ (k9 k : Nat), k ≤ (jS s).length → ((jS s).length) - k = k9 → ∀ (a b : Bool), (a = true ↔ (0 < (jS s).length ∧ ∀ (j : Nat) (q : Nat × Nat), j < k → (jS s)[j]? = some q → 0 < jCo s r q.1)) → (b = true ↔ ∃ (j : Nat) (q : Nat × Nat), j < k ∧ (jS s)[j]? = some q ∧ 64 < jCo s r q.1) → aX mX11_choose aE0 (sh0, I, L, R) 17 [(0, .ref 159), (1, .int (bI (a))), (2, .int (bI (b))), (3, .int (nI (k)))] [] 0 0 Q := by
  intro k9
  induction k9 using Nat.strongRecOn with
  | _ k9 ih =>
    intro k hi hk9 a b  hall hmany
    have hn := ho.1
    have hSl := jS_len s
    refine aX_iload_n dX11_choose_17 rfl ?_
    refine aX_aload_n dX11_choose_18 rfl ?_
    refine aX_get (v := .int (nI ((jS s).length))) dX11_choose_19 lfX11_154 s159 (congrArg Value.int (hS.1)) ?_
    refine nGe (tgt := 67) dX11_choose_22 (by decide) (by first | omega | exact Nat.lt_of_le_of_lt (Nat.mod_le _ _) (by omega)) (by first | omega | exact Nat.lt_of_le_of_lt (Nat.mod_le _ _) (by omega)) (fun c1 => ?_) (fun c1 => ?_)
    · obtain rfl : k = (jS s).length := by omega
      have hla : a = true → ¬ ((jS s).length = 0 ∨ jLeast s r = 0) := fun g y => by
        obtain ⟨a1, a2⟩ := hall.mp g
        rcases y with y | y
        · omega
        · exact least_pos (fun j q hq => a2 j q (List.getElem?_eq_some_iff.mp hq).1 hq) y
      have hlf : a = false → ((jS s).length = 0 ∨ jLeast s r = 0) := fun g => by
        refine Classical.byContradiction (fun y => ?_)
        have : a = true := hall.mpr ⟨by omega, fun j q hj hq => by have := least_le (r := r) hq; omega⟩
        rw [g] at this; cases this
      have hma : b = true → 64 < jMost s r := fun g => by
        obtain ⟨j, q, a1, a2, a3⟩ := hmany.mp g
        have := most_ge (r := r) a2; omega
      have hmf : b = false → ¬ 64 < jMost s r := fun g y => by
        have : jMost s r ≤ 64 := most_le (fun j q hq => Nat.le_of_not_lt (fun w => by
          have : b = true := hmany.mpr ⟨j, q, (List.getElem?_eq_some_iff.mp hq).1, hq, w⟩
          rw [g] at this; cases this))
        omega
      refine aX_iload_n dX11_choose_67 rfl ?_
      refine bNe (tgt := 75) dX11_choose_68 (by decide) (fun c2 => ?_) (fun c2 => ?_)
      · have ha := hla c2
        have hat : a = true := c2
        subst hat
        refine aX_iload_n dX11_choose_75 rfl ?_
        refine bEq (tgt := 83) dX11_choose_76 (by decide) (fun c3 => ?_) (fun c3 => ?_)
        · have hm := hmf c3
          have hbt : b = false := c3
          subst hbt
          exact kk ha hm
        · have hm := hma c3
          refine aX_ldc2 (v := (-3)) dX11_choose_79 lkX11_203 ?_
          exact rL dX11_choose_82 rfl (k3 ha hm)
      · have ha := hlf c2
        refine aX_ldc2 (v := (-2)) dX11_choose_71 lkX11_201 ?_
        exact rL dX11_choose_74 rfl (k2 ha)
    · obtain ⟨q, hq⟩ : ∃ q, (jS s)[k]? = some q := ⟨_, List.getElem?_eq_getElem (by omega)⟩
      have h729 := jCo_729 (s := s) (b := q.1) h6 hl.1
      refine aX_iload_n dX11_choose_25 rfl ?_
      refine aX_aload_n dX11_choose_26 rfl ?_
      refine aX_get dX11_choose_27 lfX11_66 s159 (f159_20 hR) ?_
      refine aX_iload_n dX11_choose_30 rfl ?_
      refine nIald (v := nI (jCo s r q.1)) dX11_choose_31 s176 (by first | omega | exact Nat.lt_of_le_of_lt (Nat.mod_le _ _) (by omega)) (by decide) (hcn.2.2 k q hq) ?_
      refine nIf_le (tgt := 39) dX11_choose_32 (by decide) (by first | omega | exact Nat.lt_of_le_of_lt (Nat.mod_le _ _) (by omega)) (fun c4 => ?_) (fun c4 => ?_)
      · have hc1 : jCo s r q.1 = 0 := by omega
        refine aX_iconst (v := nI 0) dX11_choose_39 (by decide) ?_
        refine aX_iand dX11_choose_40 ?_
        rw [bI_and0]
        refine aX_istore_n (lv' := [(0, .ref 159), (1, .int (bI (false))), (2, .int (bI (b))), (3, .int (nI (k)))]) dX11_choose_41 (by decide) rfl ?_
        refine aX_iload_n dX11_choose_42 rfl ?_
        refine aX_aload_n dX11_choose_43 rfl ?_
        refine aX_get dX11_choose_44 lfX11_66 s159 (f159_20 hR) ?_
        refine aX_iload_n dX11_choose_47 rfl ?_
        refine nIald (v := nI (jCo s r q.1)) dX11_choose_48 s176 (by first | omega | exact Nat.lt_of_le_of_lt (Nat.mod_le _ _) (by omega)) (by decide) (hcn.2.2 k q hq) ?_
        refine aX_bipush (v := nI 64) dX11_choose_49 (by decide) ?_
        refine nLe (tgt := 58) dX11_choose_51 (by decide) (by first | omega | exact Nat.lt_of_le_of_lt (Nat.mod_le _ _) (by omega)) (by first | omega | exact Nat.lt_of_le_of_lt (Nat.mod_le _ _) (by omega)) (fun c5 => ?_) (fun c5 => ?_)
        · have hc2 : jCo s r q.1 ≤ 64 := by omega
          refine aX_iconst (v := nI 0) dX11_choose_58 (by decide) ?_
          refine aX_ior dX11_choose_59 ?_
          rw [bI_or0]
          refine aX_istore_n (lv' := [(0, .ref 159), (1, .int (bI (false))), (2, .int (bI (b))), (3, .int (nI (k)))]) dX11_choose_60 (by decide) rfl ?_
          refine nInc (lv' := [(0, .ref 159), (1, .int (bI (false))), (2, .int (bI (b))), (3, .int (nI (k + 1)))]) dX11_choose_61 rfl rfl (by decide) rfl ?_
          refine aX_goto (tgt := 17) dX11_choose_64 (by decide) ?_
          exact ih ((jS s).length - (k + 1)) (by omega) (k + 1) (by omega) rfl _ _ (⟨fun g => absurd g Bool.false_ne_true, fun ⟨_, x2⟩ => absurd (x2 k q (by omega) hq) (by omega)⟩) (hmany.trans ⟨fun ⟨j, q', x1, x2, x3⟩ => ⟨j, q', by omega, x2, x3⟩, fun ⟨j, q', x1, x2, x3⟩ => by
              by_cases e : j = k
              · rw [e, hq] at x2; injection x2 with x2; rw [← x2] at x3; omega
              · exact ⟨j, q', by omega, x2, x3⟩⟩)
        · have hc2 : 64 < jCo s r q.1 := by omega
          refine aX_iconst (v := nI 1) dX11_choose_54 (by decide) ?_
          refine aX_goto (tgt := 59) dX11_choose_55 (by decide) ?_
          refine aX_ior dX11_choose_59 ?_
          rw [bI_or1]
          refine aX_istore_n (lv' := [(0, .ref 159), (1, .int (bI (false))), (2, .int (bI (true))), (3, .int (nI (k)))]) dX11_choose_60 (by decide) rfl ?_
          refine nInc (lv' := [(0, .ref 159), (1, .int (bI (false))), (2, .int (bI (true))), (3, .int (nI (k + 1)))]) dX11_choose_61 rfl rfl (by decide) rfl ?_
          refine aX_goto (tgt := 17) dX11_choose_64 (by decide) ?_
          exact ih ((jS s).length - (k + 1)) (by omega) (k + 1) (by omega) rfl _ _ (⟨fun g => absurd g Bool.false_ne_true, fun ⟨_, x2⟩ => absurd (x2 k q (by omega) hq) (by omega)⟩) (⟨fun _ => ⟨k, q, by omega, hq, hc2⟩, fun _ => rfl⟩)
      · have hc1 : 0 < jCo s r q.1 := by omega
        refine aX_iconst (v := nI 1) dX11_choose_35 (by decide) ?_
        refine aX_goto (tgt := 40) dX11_choose_36 (by decide) ?_
        refine aX_iand dX11_choose_40 ?_
        rw [bI_and1]
        refine aX_istore_n (lv' := [(0, .ref 159), (1, .int (bI (a))), (2, .int (bI (b))), (3, .int (nI (k)))]) dX11_choose_41 (by decide) rfl ?_
        refine aX_iload_n dX11_choose_42 rfl ?_
        refine aX_aload_n dX11_choose_43 rfl ?_
        refine aX_get dX11_choose_44 lfX11_66 s159 (f159_20 hR) ?_
        refine aX_iload_n dX11_choose_47 rfl ?_
        refine nIald (v := nI (jCo s r q.1)) dX11_choose_48 s176 (by first | omega | exact Nat.lt_of_le_of_lt (Nat.mod_le _ _) (by omega)) (by decide) (hcn.2.2 k q hq) ?_
        refine aX_bipush (v := nI 64) dX11_choose_49 (by decide) ?_
        refine nLe (tgt := 58) dX11_choose_51 (by decide) (by first | omega | exact Nat.lt_of_le_of_lt (Nat.mod_le _ _) (by omega)) (by first | omega | exact Nat.lt_of_le_of_lt (Nat.mod_le _ _) (by omega)) (fun c6 => ?_) (fun c6 => ?_)
        · have hc2 : jCo s r q.1 ≤ 64 := by omega
          refine aX_iconst (v := nI 0) dX11_choose_58 (by decide) ?_
          refine aX_ior dX11_choose_59 ?_
          rw [bI_or0]
          refine aX_istore_n (lv' := [(0, .ref 159), (1, .int (bI (a))), (2, .int (bI (b))), (3, .int (nI (k)))]) dX11_choose_60 (by decide) rfl ?_
          refine nInc (lv' := [(0, .ref 159), (1, .int (bI (a))), (2, .int (bI (b))), (3, .int (nI (k + 1)))]) dX11_choose_61 rfl rfl (by decide) rfl ?_
          refine aX_goto (tgt := 17) dX11_choose_64 (by decide) ?_
          exact ih ((jS s).length - (k + 1)) (by omega) (k + 1) (by omega) rfl _ _ (hall.trans ⟨fun ⟨x1, x2⟩ => ⟨x1, fun j q' hj hq' => by
              by_cases e : j = k
              · rw [e, hq] at hq'; injection hq' with hq'; rw [← hq']; exact hc1
              · exact x2 j q' (by omega) hq'⟩, fun ⟨x1, x2⟩ => ⟨x1, fun j q' hj hq' => x2 j q' (by omega) hq'⟩⟩) (hmany.trans ⟨fun ⟨j, q', x1, x2, x3⟩ => ⟨j, q', by omega, x2, x3⟩, fun ⟨j, q', x1, x2, x3⟩ => by
              by_cases e : j = k
              · rw [e, hq] at x2; injection x2 with x2; rw [← x2] at x3; omega
              · exact ⟨j, q', by omega, x2, x3⟩⟩)
        · have hc2 : 64 < jCo s r q.1 := by omega
          refine aX_iconst (v := nI 1) dX11_choose_54 (by decide) ?_
          refine aX_goto (tgt := 59) dX11_choose_55 (by decide) ?_
          refine aX_ior dX11_choose_59 ?_
          rw [bI_or1]
          refine aX_istore_n (lv' := [(0, .ref 159), (1, .int (bI (a))), (2, .int (bI (true))), (3, .int (nI (k)))]) dX11_choose_60 (by decide) rfl ?_
          refine nInc (lv' := [(0, .ref 159), (1, .int (bI (a))), (2, .int (bI (true))), (3, .int (nI (k + 1)))]) dX11_choose_61 rfl rfl (by decide) rfl ?_
          refine aX_goto (tgt := 17) dX11_choose_64 (by decide) ?_
          exact ih ((jS s).length - (k + 1)) (by omega) (k + 1) (by omega) rfl _ _ (hall.trans ⟨fun ⟨x1, x2⟩ => ⟨x1, fun j q' hj hq' => by
              by_cases e : j = k
              · rw [e, hq] at hq'; injection hq' with hq'; rw [← hq']; exact hc1
              · exact x2 j q' (by omega) hq'⟩, fun ⟨x1, x2⟩ => ⟨x1, fun j q' hj hq' => x2 j q' (by omega) hq'⟩⟩) (⟨fun _ => ⟨k, q, by omega, hq, hc2⟩, fun _ => rfl⟩)
set_option maxHeartbeats 1000000 in
theorem mc_p2c {I : Nat → Nat → Int32} {L : Nat → Nat → Int64} {R : Nat → Nat → Option Nat} (hR : aRf R) {s : jN} (hs : mnRep I s) (ho : jOk s) (h6 : jSix s) (hS : msRep I s (jS s)) {r : jR} (hl : mlRep I r) (hcn : mcRep I s r) {I0 : Nat → Nat → Int32} (hk00 : ∀ q j, q ≠ 181 → I0 q j = I q j) {k rd : Nat} {q : Nat × Nat} (hq : (jS s)[k]? = some q) (hp : jPos s r q.1) (hrd : rd < 64) {Q : Option Value → aH → Prop} (kk : ∀ I2 : Nat → Nat → Int32, (∀ m, m < s.1 → jOn s m q.1 = true → I2 181 (16 * (64 * k + rd) + m) = jTg s r q.1 rd m) → (∀ a j, ¬ (a = 181 ∧ 16 * (64 * k + rd) ≤ j ∧ j < 16 * (64 * k + rd) + 16) → I2 a j = I0 a j) → aX mX11_choose aE0 (sh0, I2, L, R) 162 [(0, .ref 159), (1, .int (bI true)), (2, .int (bI false)), (3, .int (nI k)), (4, .int (nI rd)), (5, .int (nI s.1))] [] 0 0 Q) : ∀ (k9 i : Nat), i ≤ s.1 → s.1 - i = k9 → ∀ (I1 : Nat → Nat → Int32), (∀ m, m < i → jOn s m q.1 = true → I1 181 (16 * (64 * k + rd) + m) = jTg s r q.1 rd m) → (∀ a j, ¬ (a = 181 ∧ 16 * (64 * k + rd) ≤ j ∧ j < 16 * (64 * k + rd) + 16) → I1 a j = I0 a j) → aX mX11_choose aE0 (sh0, I1, L, R) 110 [(0, .ref 159), (1, .int (bI (true))), (2, .int (bI (false))), (3, .int (nI (k))), (4, .int (nI (rd))), (5, .int (nI (i)))] [] 0 0 Q := by
  intro k9
  induction k9 using Nat.strongRecOn with
  | _ k9 ih =>
    intro i hi hk9 I1  hin hk0
    have hn := ho.1
    have hSl := jS_len s
    have hkl : k < (jS s).length := (List.getElem?_eq_some_iff.mp hq).1
    have hk1 : ∀ q j, q ≠ 181 → I1 q j = I q j := fun q j g => (hk0 q j (by omega)).trans (hk00 q j g)
    have hs1 : mnRep I1 s := mnRep_of (fun q j g => hk1 q j (by omega)) hs
    have hS1 : msRep I1 s (jS s) := msRep_of (fun q j g => hk1 q j (by omega)) hS
    have hl1 : mlRep I1 r := mlRep_of (fun q j _ _ => hk1 q j (by omega)) hl
    have hcn1 : mcRep I1 s r := mcRep_of (fun q j g => hk1 q j (by omega)) hcn
    refine aX_iload dX11_choose_110 rfl ?_
    refine aX_aload_n dX11_choose_112 rfl ?_
    refine aX_get (v := .int (nI (s.1))) dX11_choose_113 lfX11_150 s159 (congrArg Value.int (hs1.1)) ?_
    refine nGe (tgt := 162) dX11_choose_116 (by decide) (by first | omega | exact Nat.lt_of_le_of_lt (Nat.mod_le _ _) (by omega)) (by first | omega | exact Nat.lt_of_le_of_lt (Nat.mod_le _ _) (by omega)) (fun c1 => ?_) (fun c1 => ?_)
    · obtain rfl : i = s.1 := by omega
      exact kk I1 hin hk0
    · refine aX_aload_n dX11_choose_119 rfl ?_
      refine aX_iload_n dX11_choose_120 rfl ?_
      refine aX_iload dX11_choose_121 rfl ?_
      refine cVp (As := [.int (nI (k)), .int (nI (i))]) (st := []) (v := .int (bI (jOn s i q.1))) dX11_choose_123 kX11_choose_163 s159 aEok0 rfl rfl (Nat.le_of_ble_eq_true rfl) (m_sounds0 hR hs1 ho hS1 hSl hq (by omega)) ?_
      refine bEq (tgt := 156) dX11_choose_126 (by decide) (fun c2 => ?_) (fun c2 => ?_)
      · have hon : jOn s i q.1 = false := c2
        refine nInc (lv' := [(0, .ref 159), (1, .int (bI (true))), (2, .int (bI (false))), (3, .int (nI (k))), (4, .int (nI (rd))), (5, .int (nI (i + 1)))]) dX11_choose_156 rfl rfl (by decide) rfl ?_
        refine aX_goto (tgt := 110) dX11_choose_159 (by decide) ?_
        exact ih (s.1 - (i + 1)) (by omega) (i + 1) (by omega) rfl I1 (fun m hm ho2 => by
          by_cases e : m = i
          · subst e; rw [hon] at ho2; cases ho2
          · exact hin m (by omega) ho2) hk0
      · have hon : jOn s i q.1 = true := c2
        refine aX_aload_n dX11_choose_129 rfl ?_
        refine aX_get dX11_choose_130 lfX11_83 s159 (f159_26 hR) ?_
        refine aX_bipush (v := nI 16) dX11_choose_133 (by decide) ?_
        refine aX_bipush (v := nI 64) dX11_choose_135 (by decide) ?_
        refine aX_iload_n dX11_choose_137 rfl ?_
        refine nMul dX11_choose_138 ?_
        refine aX_iload dX11_choose_139 rfl ?_
        refine nAdd dX11_choose_141 ?_
        refine nMul dX11_choose_142 ?_
        refine aX_iload dX11_choose_143 rfl ?_
        refine nAdd dX11_choose_145 ?_
        refine aX_aload_n dX11_choose_146 rfl ?_
        refine aX_iload_n dX11_choose_147 rfl ?_
        refine aX_iload dX11_choose_148 rfl ?_
        refine aX_iload dX11_choose_150 rfl ?_
        refine cVp (As := [.int (nI (k)), .int (nI (rd)), .int (nI (i))]) (st := [.int (nI ((16 * ((64 * k) + rd)) + i)), .ref 181]) (v := .int (jTg s r q.1 rd i)) dX11_choose_152 kX11_choose_195 s159 aEok0 rfl rfl (Nat.le_of_ble_eq_true rfl) (m_targetOf hR hs1 ho hS1 hl1 hq hp (by omega) (by omega) hon) ?_
        refine nIast dX11_choose_155 s181 (by first | omega | exact Nat.lt_of_le_of_lt (Nat.mod_le _ _) (by omega)) (by decide) ?_
        refine nInc (lv' := [(0, .ref 159), (1, .int (bI (true))), (2, .int (bI (false))), (3, .int (nI (k))), (4, .int (nI (rd))), (5, .int (nI (i + 1)))]) dX11_choose_156 rfl rfl (by decide) rfl ?_
        refine aX_goto (tgt := 110) dX11_choose_159 (by decide) ?_
        exact ih (s.1 - (i + 1)) (by omega) (i + 1) (by omega) rfl _ (fun m hm ho2 => by
          by_cases e : m = i
          · subst e; rw [aU_s]
          · rw [aU_n (by omega)]; exact hin m (by omega) ho2) (fun a j g => by rw [aU_n (by omega)]; exact hk0 a j g)
set_option maxHeartbeats 1000000 in
theorem mc_p2b {I : Nat → Nat → Int32} {L : Nat → Nat → Int64} {R : Nat → Nat → Option Nat} (hR : aRf R) {s : jN} (hs : mnRep I s) (ho : jOk s) (h6 : jSix s) (hS : msRep I s (jS s)) {r : jR} (hl : mlRep I r) (hcn : mcRep I s r) {I0 : Nat → Nat → Int32} (hk00 : ∀ q j, q ≠ 181 → I0 q j = I q j) {k : Nat} {q : Nat × Nat} (hq : (jS s)[k]? = some q) (hp : jPos s r q.1) (h64 : jCo s r q.1 ≤ 64) {Q : Option Value → aH → Prop} (kk : ∀ I2 : Nat → Nat → Int32, (∀ rd m, rd < jCo s r q.1 → m < s.1 → jOn s m q.1 = true → I2 181 (16 * (64 * k + rd) + m) = jTg s r q.1 rd m) → (∀ a j, ¬ (a = 181 ∧ 16 * (64 * k) ≤ j) → I2 a j = I0 a j) → aX mX11_choose aE0 (sh0, I2, L, R) 168 [(0, .ref 159), (1, .int (bI true)), (2, .int (bI false)), (3, .int (nI k)), (4, .int (nI (jCo s r q.1)))] [] 0 0 Q) : ∀ (k9 rd : Nat), rd ≤ jCo s r q.1 → (jCo s r q.1) - rd = k9 → ∀ (I1 : Nat → Nat → Int32), (∀ x m, x < rd → m < s.1 → jOn s m q.1 = true → I1 181 (16 * (64 * k + x) + m) = jTg s r q.1 x m) → (∀ a j, ¬ (a = 181 ∧ 16 * (64 * k) ≤ j) → I1 a j = I0 a j) → aX mX11_choose aE0 (sh0, I1, L, R) 96 [(0, .ref 159), (1, .int (bI (true))), (2, .int (bI (false))), (3, .int (nI (k))), (4, .int (nI (rd)))] [] 0 0 Q := by
  intro k9
  induction k9 using Nat.strongRecOn with
  | _ k9 ih =>
    intro rd hi hk9 I1  hin hk0
    have hn := ho.1
    have hSl := jS_len s
    have hkl : k < (jS s).length := (List.getElem?_eq_some_iff.mp hq).1
    have hk1 : ∀ q j, q ≠ 181 → I1 q j = I q j := fun q j g => (hk0 q j (by omega)).trans (hk00 q j g)
    have hs1 : mnRep I1 s := mnRep_of (fun q j g => hk1 q j (by omega)) hs
    have hS1 : msRep I1 s (jS s) := msRep_of (fun q j g => hk1 q j (by omega)) hS
    have hl1 : mlRep I1 r := mlRep_of (fun q j _ _ => hk1 q j (by omega)) hl
    have hcn1 : mcRep I1 s r := mcRep_of (fun q j g => hk1 q j (by omega)) hcn
    refine aX_iload dX11_choose_96 rfl ?_
    refine aX_aload_n dX11_choose_98 rfl ?_
    refine aX_get dX11_choose_99 lfX11_66 s159 (f159_20 hR) ?_
    refine aX_iload_n dX11_choose_102 rfl ?_
    refine nIald (v := nI (jCo s r q.1)) dX11_choose_103 s176 (by first | omega | exact Nat.lt_of_le_of_lt (Nat.mod_le _ _) (by omega)) (by decide) (hcn1.2.2 k q hq) ?_
    refine nGe (tgt := 168) dX11_choose_104 (by decide) (by first | omega | exact Nat.lt_of_le_of_lt (Nat.mod_le _ _) (by omega)) (by first | omega | exact Nat.lt_of_le_of_lt (Nat.mod_le _ _) (by omega)) (fun c1 => ?_) (fun c1 => ?_)
    · obtain rfl : rd = jCo s r q.1 := by omega
      exact kk I1 hin hk0
    · refine aX_iconst (v := nI 0) dX11_choose_107 (by decide) ?_
      refine aX_istore (lv' := [(0, .ref 159), (1, .int (bI (true))), (2, .int (bI (false))), (3, .int (nI (k))), (4, .int (nI (rd))), (5, .int (nI (0)))]) dX11_choose_108 (by decide) rfl ?_
      refine mc_p2c hR hs ho h6 hS hl hcn hk1 hq hp (rd := rd) (by omega) (fun I2 g1 g2 => ?_) _ 0 (by omega) rfl I1 (fun m h _ => by omega) (fun _ _ _ => rfl)
      refine nInc (lv' := [(0, .ref 159), (1, .int (bI (true))), (2, .int (bI (false))), (3, .int (nI (k))), (4, .int (nI (rd + 1))), (5, .int (nI (s.1)))]) dX11_choose_162 rfl rfl (by decide) rfl ?_
      refine aX_goto (tgt := 96) dX11_choose_165 (by decide) ?_
      refine aX_lv (lv' := [(0, .ref 159), (1, .int (bI (true))), (2, .int (bI (false))), (3, .int (nI (k))), (4, .int (nI (rd + 1)))]) [0, 1, 2, 3, 4] rfl ?_
      exact ih (jCo s r q.1 - (rd + 1)) (by omega) (rd + 1) (by omega) rfl I2 (fun x m hx hm ho2 => by
        by_cases e : x = rd
        · subst e; exact g1 m hm ho2
        · rw [g2 _ _ (by omega)]; exact hin x m (by omega) hm ho2) (fun a j g => (g2 a j (by omega)).trans (hk0 a j g))
set_option maxHeartbeats 1000000 in
theorem mc_p2 {I : Nat → Nat → Int32} {L : Nat → Nat → Int64} {R : Nat → Nat → Option Nat} (hR : aRf R) {s : jN} (hs : mnRep I s) (ho : jOk s) (h6 : jSix s) (hS : msRep I s (jS s)) {r : jR} (hl : mlRep I r) (hcn : mcRep I s r) (hcz : ∀ (k : Nat) (q : Nat × Nat), (jS s)[k]? = some q → 0 < jCo s r q.1 ∧ jCo s r q.1 ≤ 64) {Q : Option Value → aH → Prop} (kk : ∀ I2 : Nat → Nat → Int32, tgAll I2 s r (jS s).length → (∀ a j, a ≠ 181 → I2 a j = I a j) → aX mX11_choose aE0 (sh0, I2, L, R) 174 [(0, .ref 159), (1, .int (bI true)), (2, .int (bI false)), (3, .int (nI (jS s).length))] [] 0 0 Q) : ∀ (k9 k : Nat), k ≤ (jS s).length → ((jS s).length) - k = k9 → ∀ (I1 : Nat → Nat → Int32), tgAll I1 s r k → (∀ q j, q ≠ 181 → I1 q j = I q j) → aX mX11_choose aE0 (sh0, I1, L, R) 85 [(0, .ref 159), (1, .int (bI (true))), (2, .int (bI (false))), (3, .int (nI (k)))] [] 0 0 Q := by
  intro k9
  induction k9 using Nat.strongRecOn with
  | _ k9 ih =>
    intro k hi hk9 I1  htg hk1
    have hn := ho.1
    have hSl := jS_len s
    have hs1 : mnRep I1 s := mnRep_of (fun q j g => hk1 q j (by omega)) hs
    have hS1 : msRep I1 s (jS s) := msRep_of (fun q j g => hk1 q j (by omega)) hS
    have hl1 : mlRep I1 r := mlRep_of (fun q j _ _ => hk1 q j (by omega)) hl
    have hcn1 : mcRep I1 s r := mcRep_of (fun q j g => hk1 q j (by omega)) hcn
    refine aX_iload_n dX11_choose_85 rfl ?_
    refine aX_aload_n dX11_choose_86 rfl ?_
    refine aX_get (v := .int (nI ((jS s).length))) dX11_choose_87 lfX11_154 s159 (congrArg Value.int (hS1.1)) ?_
    refine nGe (tgt := 174) dX11_choose_90 (by decide) (by first | omega | exact Nat.lt_of_le_of_lt (Nat.mod_le _ _) (by omega)) (by first | omega | exact Nat.lt_of_le_of_lt (Nat.mod_le _ _) (by omega)) (fun c1 => ?_) (fun c1 => ?_)
    · obtain rfl : k = (jS s).length := by omega
      exact kk I1 htg hk1
    · obtain ⟨q, hq⟩ : ∃ q, (jS s)[k]? = some q := ⟨_, List.getElem?_eq_getElem c1⟩
      obtain ⟨p1, p2⟩ := hcz k q hq
      refine aX_iconst (v := nI 0) dX11_choose_93 (by decide) ?_
      refine aX_istore (lv' := [(0, .ref 159), (1, .int (bI (true))), (2, .int (bI (false))), (3, .int (nI (k))), (4, .int (nI (0)))]) dX11_choose_94 (by decide) rfl ?_
      refine mc_p2b hR hs ho h6 hS hl hcn hk1 hq (jCo_pos p1) p2 (fun I2 g1 g2 => ?_) _ 0 (by omega) rfl I1 (fun x m h => by omega) (fun _ _ _ => rfl)
      refine nInc (lv' := [(0, .ref 159), (1, .int (bI (true))), (2, .int (bI (false))), (3, .int (nI (k + 1))), (4, .int (nI (jCo s r q.1)))]) dX11_choose_168 rfl rfl (by decide) rfl ?_
      refine aX_goto (tgt := 85) dX11_choose_171 (by decide) ?_
      refine aX_lv (lv' := [(0, .ref 159), (1, .int (bI (true))), (2, .int (bI (false))), (3, .int (nI (k + 1)))]) [0, 1, 2, 3] rfl ?_
      exact ih ((jS s).length - (k + 1)) (by omega) (k + 1) (by omega) rfl I2 (fun k' q' rd m hk' hq' hrd hm ho2 => by
        by_cases e : k' = k
        · subst e
          rw [hq] at hq'; injection hq' with hq'; subst hq'
          exact g1 rd m hrd hm ho2
        · have hc64 := (hcz k' q' hq').2
          rw [g2 _ _ (by omega)]; exact htg k' q' rd m (by omega) hq' hrd hm ho2) (fun a j g => (g2 a j (by omega)).trans (hk1 a j g))
