/-! MAKING THE WORLD -/
def shP (n : Nat) : List (Nat × Nat) := sh0.take n
def RP0 : Nat → Nat → Option Nat := fun _ _ => none
def FrZ (n : Nat) (I : Nat → Nat → Int32) (L : Nat → Nat → Int64) : Prop := ∀ q j, n ≤ q → I q j = 0 ∧ L q j = 0
theorem FrZ_at {n m : Nat} {I : Nat → Nat → Int32} {L : Nat → Nat → Int64} (h : FrZ n I L) (hm : n ≤ m) : FrZ m I L := fun q j g => h q j (Nat.le_trans hm g)
theorem wP0 : ∀ a b r, RP0 a b = some r → r < 0 := fun _ _ _ h => by cases h
theorem oP0 : ∀ a b, 0 ≤ a → RP0 a b = none := fun _ _ _ => rfl
theorem wf_step {R : Nat → Nat → Option Nat} {m n x y z : Nat} (h : ∀ a b r, R a b = some r → r < m) (hm : m ≤ n) (hz : z < n) : ∀ a b r, aU R x y (some z) a b = some r → r < n := fun a b r e => by
  by_cases g : a = x ∧ b = y
  · obtain ⟨rfl, rfl⟩ := g; rw [aU_s] at e; have := Option.some.inj e; omega
  · rw [aU_n g] at e; have := h a b r e; omega
theorem no_step {R : Nat → Nat → Option Nat} {m n x y z : Nat} (h : ∀ a b, m ≤ a → R a b = none) (hm : m ≤ n) (hx : x < n) : ∀ a b, n ≤ a → aU R x y (some z) a b = none := fun a b e => by
  rw [aU_n (by omega)]; exact h a b (by omega)
def mulR (R : Nat → Nat → Option Nat) (o n : Nat) : Nat → Nat → Option Nat := fun a j => if a = o then (if j < n then some (o + 1 + j) else none) else R a j
theorem wf_mul {R : Nat → Nat → Option Nat} {m n o c : Nat} (h : ∀ a b r, R a b = some r → r < m) (hm : m ≤ n) (hz : o + c < n) : ∀ a b r, mulR R o c a b = some r → r < n := fun a b r e => by
  unfold mulR at e
  by_cases g : a = o
  · rw [if_pos g] at e
    by_cases q : b < c
    · rw [if_pos q] at e; have := Option.some.inj e; omega
    · rw [if_neg q] at e; cases e
  · rw [if_neg g] at e; have := h a b r e; omega
theorem no_mul {R : Nat → Nat → Option Nat} {m n o c : Nat} (h : ∀ a b, m ≤ a → R a b = none) (hm : m ≤ n) (hx : o < n) : ∀ a b, n ≤ a → mulR R o c a b = none := fun a b e => by
  unfold mulR
  rw [if_neg (by omega)]; exact h a b (by omega)
theorem aNew_fr {sh : List (Nat × Nat)} {I : Nat → Nat → Int32} {L : Nat → Nat → Int64} {R : Nat → Nat → Option Nat} {sn : Nat × Nat} {id : Nat} (e : 8 + sh.length = id) (hz : FrZ id I L) (hn : ∀ j, R id j = none) : aNew (sh, I, L, R) sn = (sh ++ [sn], I, L, R) := by
  unfold aNew
  have k : ∀ {α : Type} (f : Nat → Nat → α) (v : α), (∀ j, f id j = v) → aUr f (8 + sh.length) (fun _ => v) = f := fun f v h => by
    funext a b
    unfold aUr
    by_cases g : a = 8 + sh.length
    · rw [if_pos g, g, e, h b]
    · rw [if_neg g]
  show (sh ++ [sn], aUr I _ _, aUr L _ _, aUr R _ _) = _
  rw [k I 0 (fun j => (hz id j (Nat.le_refl _)).1), k L 0 (fun j => (hz id j (Nat.le_refl _)).2), k R none hn]
section MK
variable {md md' : aMd} {E : aE} {pc : Nat} {lv : List (Nat × Value)} {st stk : List Value} {bc bs bc' bs' : Nat} {Q : Option Value → aH → Prop} {Q' : Option Value → aH → Prop} {sh sh' : List (Nat × Nat)} {I : Nat → Nat → Int32} {L : Nat → Nat → Int64} {R R' : Nat → Nat → Option Nat} {id : Nat}
theorem nNew {idx ci : Nat} (hd : decode md.2.1 pc = .ok (.new idx, 3)) (hL : aLkN md.1.cls idx ci) (e1 : 8 + sh.length = id) (e2 : sh ++ [(10 + ci, 0)] = sh') (hw : ∀ a b r, R a b = some r → r < id) (hz : FrZ id I L) (hn : ∀ j, R id j = none) (hok : aOkL id lv st = true) (hbc : 1 ≤ bc) (hbs : aN ci ≤ bs) (e3 : bc - 1 = bc') (e4 : bs - aN ci = bs') (k : aX md E (sh', I, L, R) (pc + 3) lv (.ref id :: st) bc' bs' Q) : aX md E (sh, I, L, R) pc lv st bc bs Q := by
  subst e3 e4 e2
  have e1' : 8 + (sh, I, L, R).1.length = id := e1
  refine aX_new hd hL (fun a b r h => by rw [e1']; exact hw a b r h) (by rw [e1']; exact hok) hbc hbs ?_
  rw [aNew_fr e1 hz hn, e1']; exact k
theorem nNewa {at' : ArrayType} {kd : Nat} {n : Int32} {N : Nat} (hd : decode md.2.1 pc = .ok (.newarray at', 2)) (hk : (at' = .int ∧ kd = 0) ∨ (at' = .boolean ∧ kd = 1) ∨ (at' = .byte ∧ kd = 2) ∨ (at' = .long ∧ kd = 3)) (hw0 : Cond.arrayClass (newarray.typeOf at') ∈ aTb) (hn0 : ¬ n < 0) (hN : n.toNatClampNeg = N) (hb : N ≤ 65536) (e1 : 8 + sh.length = id) (e2 : sh ++ [(kd, N)] = sh') (hw : ∀ a b r, R a b = some r → r < id) (hz : FrZ id I L) (hn : ∀ j, R id j = none) (hok : aOkL id lv st = true) (hbc : 1 ≤ bc) (hbs : N ≤ bs) (e3 : bc - 1 = bc') (e4 : bs - N = bs') (k : aX md E (sh', I, L, R) (pc + 2) lv (.ref id :: st) bc' bs' Q) : aX md E (sh, I, L, R) pc lv (.int n :: st) bc bs Q := by
  subst e3 e4 e2
  have e1' : 8 + (sh, I, L, R).1.length = id := e1
  refine aX_newa hd hk hw0 hn0 hN hb (fun a b r h => by rw [e1']; exact hw a b r h) (by rw [e1']; exact hok) hbc hbs ?_
  rw [aNew_fr e1 hz hn, e1']; exact k
theorem nNewq {idx : Nat} {n : Int32} {N : Nat} (hd : decode md.2.1 pc = .ok (.anewarray idx, 3)) (hw0 : Cond.classLink md.1.cls idx "JustMoves$Whole" ∈ aTb) (hn0 : ¬ n < 0) (hN : n.toNatClampNeg = N) (hb : N ≤ 65536) (e1 : 8 + sh.length = id) (e2 : sh ++ [(4, N)] = sh') (hw : ∀ a b r, R a b = some r → r < id) (hz : FrZ id I L) (hn : ∀ j, R id j = none) (hok : aOkL id lv st = true) (hbc : 1 ≤ bc) (hbs : N ≤ bs) (e3 : bc - 1 = bc') (e4 : bs - N = bs') (k : aX md E (sh', I, L, R) (pc + 3) lv (.ref id :: st) bc' bs' Q) : aX md E (sh, I, L, R) pc lv (.int n :: st) bc bs Q := by
  subst e3 e4 e2
  have e1' : 8 + (sh, I, L, R).1.length = id := e1
  refine aX_newq hd hw0 hn0 hN hb (fun a b r h => by rw [e1']; exact hw a b r h) (by rw [e1']; exact hok) hbc hbs ?_
  rw [aNew_fr e1 hz hn, e1']; exact k
theorem pR {idx ci f z q r : Nat} (hd : decode md.2.1 pc = .ok (.putfield idx, 3)) (hL : aLkF md.1.cls idx ci f) (hfin : ∀ C T N, vwCl[ci]? = some (C, T, N) → (T f).2.2.2 = false ∨ (C = md.1.cls ∧ md.1.name = "<init>")) (hs : aSh (sh, I, L, R) q = some (10 + ci, z)) (ht : (∃ C, aT ci f = .object C) ∨ ∃ t, aT ci f = .array t) (e : aU R q f (some r) = R') (k : aX md E (sh, I, L, R') (pc + 3) lv st bc bs Q) : aX md E (sh, I, L, R) pc lv (.ref r :: .ref q :: st) bc bs Q := by
  subst e
  refine aX_put hd hL hfin hs (by rcases ht with ⟨C, h⟩ | ⟨t, h⟩ <;> rw [h] <;> trivial) ?_
  have e : aPutF (sh, I, L, R) (aT ci f) q f (.ref r) = (sh, I, L, aU R q f (some r)) := by rcases ht with ⟨C, h⟩ | ⟨t, h⟩ <;> rw [h] <;> rfl
  rw [e]; exact k
theorem nAast {q n r z j : Nat} (hd : decode md.2.1 pc = .ok (.aastore, 1)) (hs : aSh (sh, I, L, R) q = some (4, n)) (hj : j < n) (hn : n < 2 ^ 31) (hv : aSh (sh, I, L, R) r = some (10 + 9, z)) (e : aU R q j (some r) = R') (k : aX md E (sh, I, L, R') (pc + 1) lv st bc bs Q) : aX md E (sh, I, L, R) pc lv (.ref r :: .int (nI j) :: .ref q :: st) bc bs Q := by
  subst e
  refine aX_aast hd hs (vp_in_nI hj hn) hv ?_
  rw [nI_clamp (by omega)]; exact k
theorem nCallI {idx q n : Nat} {As : List Value} (hd : decode md.2.1 pc = .ok (.invokespecial idx, 3)) (hw : aWm md') (hl1 : Cond.methodLink md.1.cls idx md'.1 ∈ aTb ∨ Cond.methodLinkNest md.1.cls idx md'.1 "JustMoves" ∈ aNs) (hl2 : Cond.instanceMethod md'.1 ∈ aTb) (hnm : md'.1.name = "<init>") (hret : md'.2.2.2.1 = none) (hpn : aPn md' n) (hrm : aRm md md') (hn : As.length = n) (hstk : stk = As.reverse ++ .ref q :: st) (hcat : (st.map fun v => v.category).sum ≤ 8) (hE : aEok E) {h : aH} (hok : aOkL (8 + h.1.length) lv st = true) (hM : aM md' (.ref q :: As) h Q') (hbc : md'.2.2.2.2.cells ≤ bc) (hbs : md'.2.2.2.2.slots ≤ bs) (e3 : bc - md'.2.2.2.2.cells = bc') (e4 : bs - md'.2.2.2.2.slots = bs') (k : ∀ r h', Q' r h' → r = none ∧ aX md E h' (pc + 3) lv st bc' bs' Q) : aX md E h pc lv stk bc bs Q := by
  subst e3 e4
  exact aX_callI hd hw hl1 hl2 hnm hret hpn hrm hn hstk hcat hE hok hM hbc hbs (fun r h' hq _ => k r h' hq)
end MK
theorem i_Whole {sh : List (Nat × Nat)} {I : Nat → Nat → Int32} {L : Nat → Nat → Int64} {R : Nat → Nat → Option Nat} {id o z : Nat} (e1 : 8 + sh.length = id) (hs : aSh (sh ++ [(0, 12)], I, L, R) o = some (10 + 9, z)) (hw : ∀ a b r, R a b = some r → r < id) (hz : FrZ id I L) (hn : ∀ j, R id j = none) (ho : o < id) : aM mX9_init [.ref o] (sh, I, L, R) (fun ans h' => ans = none ∧ h' = (sh ++ [(0, 12)], I, L, aU R o 0 (some id))) := by
  refine aM_of plX9_init (Nat.le_of_ble_eq_true rfl) ?_
  refine aX_aload_n dX9_init_0 rfl ?_
  refine aX_objInit (st := []) dX9_init_1 loX9_3 wO2 wO3 (Nat.le_of_ble_eq_true rfl) (Nat.le_of_ble_eq_true rfl) ?_
  refine aX_aload_n dX9_init_4 rfl ?_
  refine aX_bipush (v := nI 12) dX9_init_5 (by decide) ?_
  refine nNewa (kd := 0) (N := 12) (bc' := 0) (bs' := 0) dX9_init_7 (by decide) wA_int (by decide) rfl (by decide) e1 rfl hw hz hn (by
    have h1 : decide (o < id) = true := decide_eq_true ho
    show (([(0, Value.ref o)].all fun q => aOkV id q.2) && [Value.ref o].all (aOkV id)) = true
    simp [aOkV, ho]) (Nat.le_of_ble_eq_true rfl) (Nat.le_of_ble_eq_true rfl) rfl rfl ?_
  refine pR dX9_init_9 lfX9_9 (fun _ _ _ hq => by cases hq; exact Or.inr ⟨rfl, rfl⟩) hs (Or.inr ⟨_, rfl⟩) rfl ?_
  exact rV dX9_init_12 rfl ⟨rfl, rfl⟩
