/-! ROWS FOR HAND WORK: numbers as nI, calls in one word -/
def bI (b : Bool) : Int32 := if b then 1 else 0
theorem bI_01 (b : Bool) : bI b = 0 ∨ bI b = 1 := by cases b <;> simp [bI]
theorem nI_inj {a b : Nat} (ha : a < 2 ^ 31) (hb : b < 2 ^ 31) (h : nI a = nI b) : a = b := (nI_eq ha hb).mp h
def aLV (md : aMd) (idx : Nat) (md' : aMd) (n ci : Nat) : Prop := aWm md' ∧ Cond.methodLink md.1.cls idx md'.1 ∈ aTb ∧ Cond.instanceMethod md'.1 ∈ aTb ∧ Cond.selects md'.1.cls md'.1 md'.1 ∈ aTb ∧ (∃ (T : u_T) (N : Nat), vwCl[ci]? = some (md'.1.cls, T, N)) ∧ aPn md' n ∧ aRm md md' ∧ md'.2.2.2.2.cells = 0 ∧ md'.2.2.2.2.slots = 0
def aLS (md : aMd) (idx : Nat) (md' : aMd) (n : Nat) : Prop := aWm md' ∧ Cond.methodLink md.1.cls idx md'.1 ∈ aTb ∧ Cond.static md'.1 ∈ aTb ∧ aPn md' n ∧ aRm md md' ∧ md'.2.2.2.2.cells = 0 ∧ md'.2.2.2.2.slots = 0
def aEok (E : aE) : Prop := ∀ (i : Nat) (q : Nat × (Nat → Int32)), aE0[i]? = some q → E[i]? = some q
theorem aEok0 : aEok aE0 := fun _ _ h => h
section ACV
variable {md md' : aMd} {E : aE} {h : aH} {pc : Nat} {lv : List (Nat × Value)} {st stk : List Value} {bc bs : Nat} {Q Q' : Option Value → aH → Prop}
theorem cV {idx q ci z n : Nat} {As : List Value} (hd : decode md.2.1 pc = .ok (.invokevirtual idx, 3)) (hL : aLV md idx md' n ci) (hs : aSh h q = some (10 + ci, z)) (hE : aEok E) (hn : As.length = n) (hstk : stk = As.reverse ++ .ref q :: st) (hcat : (st.map fun v => v.category).sum ≤ 8) (hM : aM md' (.ref q :: As) h Q') (k : ∀ r h', Q' r h' → h'.1.length = h.1.length ∧ aX md E h' (pc + 3) lv (r.toList ++ st) bc bs Q) : aX md E h pc lv stk bc bs Q := by
  obtain ⟨w1, w2, w3, w4, ⟨T, N, w5⟩, w6, w7, w8⟩ := hL
  exact aX_callV hd w1 w2 w3 w4 w5 rfl w6 w7 hs hn hstk hcat hE hM w8 k
theorem cS {idx n : Nat} {As : List Value} (hd : decode md.2.1 pc = .ok (.invokestatic idx, 3)) (hL : aLS md idx md' n) (hE : aEok E) (hn : As.length = n) (hstk : stk = As.reverse ++ st) (hcat : (st.map fun v => v.category).sum ≤ 8) (hM : aM md' As h Q') (k : ∀ r h', Q' r h' → h'.1.length = h.1.length ∧ aX md E h' (pc + 3) lv (r.toList ++ st) bc bs Q) : aX md E h pc lv stk bc bs Q := by
  obtain ⟨w1, w2, w3, w4, w5, w6⟩ := hL
  exact aX_callS hd w1 w2 w3 w4 w5 hn hstk hcat hE hM w6 k
/-- a method that changes nothing and answers v -/
abbrev aMp (md : aMd) (vs : List Value) (h : aH) (v : Value) : Prop := aM md vs h (fun r h' => h' = h ∧ r = some v)
theorem cVp {idx q ci z n : Nat} {As : List Value} {v : Value} (hd : decode md.2.1 pc = .ok (.invokevirtual idx, 3)) (hL : aLV md idx md' n ci) (hs : aSh h q = some (10 + ci, z)) (hE : aEok E) (hn : As.length = n) (hstk : stk = As.reverse ++ .ref q :: st) (hcat : (st.map fun v => v.category).sum ≤ 8) (hM : aMp md' (.ref q :: As) h v) (k : aX md E h (pc + 3) lv (v :: st) bc bs Q) : aX md E h pc lv stk bc bs Q :=
  cV hd hL hs hE hn hstk hcat hM (fun r h' hq => by obtain ⟨rfl, rfl⟩ := hq; exact ⟨rfl, k⟩)
theorem cSp {idx n : Nat} {As : List Value} {v : Value} (hd : decode md.2.1 pc = .ok (.invokestatic idx, 3)) (hL : aLS md idx md' n) (hE : aEok E) (hn : As.length = n) (hstk : stk = As.reverse ++ st) (hcat : (st.map fun v => v.category).sum ≤ 8) (hM : aMp md' As h v) (k : aX md E h (pc + 3) lv (v :: st) bc bs Q) : aX md E h pc lv stk bc bs Q :=
  cS hd hL hE hn hstk hcat hM (fun r h' hq => by obtain ⟨rfl, rfl⟩ := hq; exact ⟨rfl, k⟩)
theorem rI {x : Int32} (hd : decode md.2.1 pc = .ok (.ireturn, 1)) (hr : md.2.2.2.1 = some .int) (hq : Q (some (.int x)) h) : aX md E h pc lv [.int x] bc bs Q := aX_ret (r := some (.int x)) ⟨hd, Or.inl hr⟩ hq
theorem rZ {x : Int32} (hd : decode md.2.1 pc = .ok (.ireturn, 1)) (hr : md.2.2.2.1 = some .boolean) (hx : x = 0 ∨ x = 1) (hq : Q (some (.int x)) h) : aX md E h pc lv [.int x] bc bs Q := aX_ret (r := some (.int x)) ⟨hd, Or.inr ⟨hr, hx⟩⟩ hq
theorem rL {x : Int64} (hd : decode md.2.1 pc = .ok (.lreturn, 1)) (hr : md.2.2.2.1 = some .long) (hq : Q (some (.long x)) h) : aX md E h pc lv [.long x] bc bs Q := aX_ret (r := some (.long x)) ⟨hd, hr⟩ hq
theorem rV (hd : decode md.2.1 pc = .ok (.return_, 1)) (hr : md.2.2.2.1 = none) (hq : Q none h) : aX md E h pc lv [] bc bs Q := aX_ret (r := none) ⟨hd, hr⟩ hq
theorem nAdd {a b : Nat} (hd : decode md.2.1 pc = .ok (.iadd, 1)) (k : aX md E h (pc + 1) lv (.int (nI (a + b)) :: st) bc bs Q) : aX md E h pc lv (.int (nI b) :: .int (nI a) :: st) bc bs Q := aX_iadd hd (by rw [nI_add]; exact k)
theorem nSub {a b : Nat} (hd : decode md.2.1 pc = .ok (.isub, 1)) (hb : b ≤ a) (k : aX md E h (pc + 1) lv (.int (nI (a - b)) :: st) bc bs Q) : aX md E h pc lv (.int (nI b) :: .int (nI a) :: st) bc bs Q := aX_isub hd (by rw [pk_sub hb]; exact k)
theorem nMul {a b : Nat} (hd : decode md.2.1 pc = .ok (.imul, 1)) (k : aX md E h (pc + 1) lv (.int (nI (a * b)) :: st) bc bs Q) : aX md E h pc lv (.int (nI b) :: .int (nI a) :: st) bc bs Q := aX_imul hd (by rw [pk_mul]; exact k)
theorem nDiv {a b : Nat} (hd : decode md.2.1 pc = .ok (.idiv, 1)) (ha : a < 2 ^ 31) (h0 : 0 < b) (hb : b < 2 ^ 31) (k : aX md E h (pc + 1) lv (.int (nI (a / b)) :: st) bc bs Q) : aX md E h pc lv (.int (nI b) :: .int (nI a) :: st) bc bs Q := aX_idiv hd (nI_ne0 h0 hb) (by rw [pk_div ha h0 hb]; exact k)
theorem nRem {a b : Nat} (hd : decode md.2.1 pc = .ok (.irem, 1)) (ha : a < 2 ^ 31) (h0 : 0 < b) (hb : b < 2 ^ 31) (k : aX md E h (pc + 1) lv (.int (nI (a % b)) :: st) bc bs Q) : aX md E h pc lv (.int (nI b) :: .int (nI a) :: st) bc bs Q := aX_irem hd (nI_ne0 h0 hb) (by rw [pk_rem ha h0 hb]; exact k)
theorem nInc {i a : Nat} {n : Int} {lv' : List (Nat × Value)} (hd : decode md.2.1 pc = .ok (.iinc i n, 3)) (h1 : n = 1) (hg : aGet i lv = some (.int (nI a))) (hn : i < md.2.2.1) (hs : aS1 i (.int (nI (a + 1))) lv = lv') (k : aX md E h (pc + 3) lv' st bc bs Q) : aX md E h pc lv st bc bs Q := by
  subst h1
  exact aX_iinc hd hg (show nI a + 1 = nI (a + 1) from nI_1 a) hn hs k
theorem nDec {i a : Nat} {n : Int} {lv' : List (Nat × Value)} (hd : decode md.2.1 pc = .ok (.iinc i n, 3)) (h1 : n = -1) (hg : aGet i lv = some (.int (nI (a + 1)))) (hn : i < md.2.2.1) (hs : aS1 i (.int (nI a)) lv = lv') (k : aX md E h (pc + 3) lv' st bc bs Q) : aX md E h pc lv st bc bs Q := by
  subst h1
  exact aX_iinc hd hg (show nI (a + 1) + (-1) = nI a from pk_m1 a) hn hs k
theorem nLt {a b : Nat} {off : Int} {tgt : Nat} (hd : decode md.2.1 pc = .ok (.if_icmp .lt off, 3)) (ht : (pc : Int) + off = (tgt : Int)) (ha : a < 2 ^ 31) (hb : b < 2 ^ 31) (kt : a < b → aX md E h tgt lv st bc bs Q) (kf : b ≤ a → aX md E h (pc + 3) lv st bc bs Q) : aX md E h pc lv (.int (nI b) :: .int (nI a) :: st) bc bs Q :=
  aX_icmp_lt hd ht (fun c => kt ((nI_ltI ha hb).mp c)) (fun c => kf (Nat.not_lt.mp (fun z => c ((nI_ltI ha hb).mpr z))))
theorem nGe {a b : Nat} {off : Int} {tgt : Nat} (hd : decode md.2.1 pc = .ok (.if_icmp .ge off, 3)) (ht : (pc : Int) + off = (tgt : Int)) (ha : a < 2 ^ 31) (hb : b < 2 ^ 31) (kt : b ≤ a → aX md E h tgt lv st bc bs Q) (kf : a < b → aX md E h (pc + 3) lv st bc bs Q) : aX md E h pc lv (.int (nI b) :: .int (nI a) :: st) bc bs Q :=
  aX_icmp_ge hd ht (fun c => kt ((nI_leI hb ha).mp c)) (fun c => kf (Nat.not_le.mp (fun z => c ((nI_leI hb ha).mpr z))))
theorem nGt {a b : Nat} {off : Int} {tgt : Nat} (hd : decode md.2.1 pc = .ok (.if_icmp .gt off, 3)) (ht : (pc : Int) + off = (tgt : Int)) (ha : a < 2 ^ 31) (hb : b < 2 ^ 31) (kt : b < a → aX md E h tgt lv st bc bs Q) (kf : a ≤ b → aX md E h (pc + 3) lv st bc bs Q) : aX md E h pc lv (.int (nI b) :: .int (nI a) :: st) bc bs Q :=
  aX_icmp_gt hd ht (fun c => kt ((nI_ltI hb ha).mp c)) (fun c => kf (Nat.not_lt.mp (fun z => c ((nI_ltI hb ha).mpr z))))
theorem nLe {a b : Nat} {off : Int} {tgt : Nat} (hd : decode md.2.1 pc = .ok (.if_icmp .le off, 3)) (ht : (pc : Int) + off = (tgt : Int)) (ha : a < 2 ^ 31) (hb : b < 2 ^ 31) (kt : a ≤ b → aX md E h tgt lv st bc bs Q) (kf : b < a → aX md E h (pc + 3) lv st bc bs Q) : aX md E h pc lv (.int (nI b) :: .int (nI a) :: st) bc bs Q :=
  aX_icmp_le hd ht (fun c => kt ((nI_leI ha hb).mp c)) (fun c => kf (Nat.not_le.mp (fun z => c ((nI_leI ha hb).mpr z))))
theorem nEq {a b : Nat} {off : Int} {tgt : Nat} (hd : decode md.2.1 pc = .ok (.if_icmp .eq off, 3)) (ht : (pc : Int) + off = (tgt : Int)) (ha : a < 2 ^ 31) (hb : b < 2 ^ 31) (kt : a = b → aX md E h tgt lv st bc bs Q) (kf : a ≠ b → aX md E h (pc + 3) lv st bc bs Q) : aX md E h pc lv (.int (nI b) :: .int (nI a) :: st) bc bs Q :=
  aX_icmp_eq hd ht (fun c => kt ((nI_eq ha hb).mp c)) (fun c => kf (fun z => c ((nI_eq ha hb).mpr z)))
theorem nNe {a b : Nat} {off : Int} {tgt : Nat} (hd : decode md.2.1 pc = .ok (.if_icmp .ne off, 3)) (ht : (pc : Int) + off = (tgt : Int)) (ha : a < 2 ^ 31) (hb : b < 2 ^ 31) (kt : a ≠ b → aX md E h tgt lv st bc bs Q) (kf : a = b → aX md E h (pc + 3) lv st bc bs Q) : aX md E h pc lv (.int (nI b) :: .int (nI a) :: st) bc bs Q :=
  aX_icmp_ne hd ht (fun c => kt (fun z => c ((nI_eq ha hb).mpr z))) (fun c => kf ((nI_eq ha hb).mp c))
theorem bEq {b : Bool} {off : Int} {tgt : Nat} (hd : decode md.2.1 pc = .ok (.ifCond .eq off, 3)) (ht : (pc : Int) + off = (tgt : Int)) (kt : b = false → aX md E h tgt lv st bc bs Q) (kf : b = true → aX md E h (pc + 3) lv st bc bs Q) : aX md E h pc lv (.int (bI b) :: st) bc bs Q :=
  aX_if_eq hd ht (fun c => kt (by cases b <;> simp [bI] at c ⊢)) (fun c => kf (by cases b <;> simp [bI] at c ⊢))
theorem bNe {b : Bool} {off : Int} {tgt : Nat} (hd : decode md.2.1 pc = .ok (.ifCond .ne off, 3)) (ht : (pc : Int) + off = (tgt : Int)) (kt : b = true → aX md E h tgt lv st bc bs Q) (kf : b = false → aX md E h (pc + 3) lv st bc bs Q) : aX md E h pc lv (.int (bI b) :: st) bc bs Q :=
  aX_if_ne hd ht (fun c => kt (by cases b <;> simp [bI] at c ⊢)) (fun c => kf (by cases b <;> simp [bI] at c ⊢))
theorem nIf_eq {a : Nat} {off : Int} {tgt : Nat} (hd : decode md.2.1 pc = .ok (.ifCond .eq off, 3)) (ht : (pc : Int) + off = (tgt : Int)) (ha : a < 2 ^ 31) (kt : a = 0 → aX md E h tgt lv st bc bs Q) (kf : 0 < a → aX md E h (pc + 3) lv st bc bs Q) : aX md E h pc lv (.int (nI a) :: st) bc bs Q :=
  aX_if_eq hd ht (fun c => kt ((nI_eq ha (by decide)).mp c)) (fun c => kf (Nat.pos_of_ne_zero (fun z => c (by rw [z]; rfl))))
theorem nIf_ne {a : Nat} {off : Int} {tgt : Nat} (hd : decode md.2.1 pc = .ok (.ifCond .ne off, 3)) (ht : (pc : Int) + off = (tgt : Int)) (ha : a < 2 ^ 31) (kt : 0 < a → aX md E h tgt lv st bc bs Q) (kf : a = 0 → aX md E h (pc + 3) lv st bc bs Q) : aX md E h pc lv (.int (nI a) :: st) bc bs Q :=
  aX_if_ne hd ht (fun c => kt (Nat.pos_of_ne_zero (fun z => c (by rw [z]; rfl)))) (fun c => kf ((nI_eq ha (by decide)).mp c))
theorem nIf_le {a : Nat} {off : Int} {tgt : Nat} (hd : decode md.2.1 pc = .ok (.ifCond .le off, 3)) (ht : (pc : Int) + off = (tgt : Int)) (ha : a < 2 ^ 31) (kt : a = 0 → aX md E h tgt lv st bc bs Q) (kf : 0 < a → aX md E h (pc + 3) lv st bc bs Q) : aX md E h pc lv (.int (nI a) :: st) bc bs Q :=
  aX_if_le hd ht (fun c => kt (by have := (nI_leI ha (b := 0) (by decide)).mp c; omega)) (fun c => kf (Nat.pos_of_ne_zero (fun z => c (by rw [z]; decide))))
theorem nIf_gt {a : Nat} {off : Int} {tgt : Nat} (hd : decode md.2.1 pc = .ok (.ifCond .gt off, 3)) (ht : (pc : Int) + off = (tgt : Int)) (ha : a < 2 ^ 31) (kt : 0 < a → aX md E h tgt lv st bc bs Q) (kf : a = 0 → aX md E h (pc + 3) lv st bc bs Q) : aX md E h pc lv (.int (nI a) :: st) bc bs Q :=
  aX_if_gt hd ht (fun c => kt ((nI_ltI (a := 0) (by decide) ha).mp c)) (fun c => kf (by
    rcases Nat.eq_zero_or_pos a with z | z
    · exact z
    · exact absurd ((nI_ltI (a := 0) (by decide) ha).mpr z) c))
theorem nIald {q n j : Nat} {v : Int32} (hd : decode md.2.1 pc = .ok (.iaload, 1)) (hs : aSh h q = some (0, n)) (hj : j < n) (hn : n < 2 ^ 31) (hv : h.2.1 q j = v) (k : aX md E h (pc + 1) lv (.int v :: st) bc bs Q) : aX md E h pc lv (.int (nI j) :: .ref q :: st) bc bs Q :=
  aX_iald hd hs (vp_in_nI hj hn) (by rw [nI_clamp (by omega), hv]; exact k)
theorem nZald {q n j : Nat} {v : Int32} (hd : decode md.2.1 pc = .ok (.baload, 1)) (hs : aSh h q = some (1, n)) (hj : j < n) (hn : n < 2 ^ 31) (hv : h.2.1 q j = v) (k : aX md E h (pc + 1) lv (.int v :: st) bc bs Q) : aX md E h pc lv (.int (nI j) :: .ref q :: st) bc bs Q :=
  aX_zald hd hs (vp_in_nI hj hn) (by rw [nI_clamp (by omega), hv]; exact k)
theorem nBald {q n j : Nat} {v : Int32} (hd : decode md.2.1 pc = .ok (.baload, 1)) (hs : aSh h q = some (2, n)) (hj : j < n) (hn : n < 2 ^ 31) (hv : h.2.1 q j = v) (k : aX md E h (pc + 1) lv (.int v :: st) bc bs Q) : aX md E h pc lv (.int (nI j) :: .ref q :: st) bc bs Q :=
  aX_bald hd hs (vp_in_nI hj hn) (by rw [nI_clamp (by omega), hv]; exact k)
theorem nLald {q n j : Nat} {v : Int64} (hd : decode md.2.1 pc = .ok (.laload, 1)) (hs : aSh h q = some (3, n)) (hj : j < n) (hn : n < 2 ^ 31) (hv : h.2.2.1 q j = v) (k : aX md E h (pc + 1) lv (.long v :: st) bc bs Q) : aX md E h pc lv (.int (nI j) :: .ref q :: st) bc bs Q :=
  aX_lald hd hs (vp_in_nI hj hn) (by rw [nI_clamp (by omega), hv]; exact k)
theorem nAald {q n j r kd : Nat} (hd : decode md.2.1 pc = .ok (.aaload, 1)) (hs : aSh h q = some (kd, n)) (hkd : kd = 4 ∨ kd = 5) (hj : j < n) (hn : n < 2 ^ 31) (hv : h.2.2.2 q j = some r) (k : aX md E h (pc + 1) lv (.ref r :: st) bc bs Q) : aX md E h pc lv (.int (nI j) :: .ref q :: st) bc bs Q :=
  aX_aald hd hs hkd (vp_in_nI hj hn) (by rw [nI_clamp (by omega)]; exact hv) k
theorem nEld {q n j : Nat} {f : Nat → Int32} {v : Int32} (hd : decode md.2.1 pc = .ok (.iaload, 1)) (hE : E[q]? = some (n, f)) (hj : j < n) (hn : n < 2 ^ 31) (hv : f j = v) (k : aX md E h (pc + 1) lv (.int v :: st) bc bs Q) : aX md E h pc lv (.int (nI j) :: .ref q :: st) bc bs Q :=
  aX_eld hd hE (vp_in_nI hj hn) (by rw [nI_clamp (by omega), hv]; exact k)
end ACV
section ACS
variable {md : aMd} {E : aE} {sh : List (Nat × Nat)} {I : Nat → Nat → Int32} {L : Nat → Nat → Int64} {R : Nat → Nat → Option Nat} {pc : Nat} {lv : List (Nat × Value)} {st : List Value} {bc bs : Nat} {Q : Option Value → aH → Prop}
theorem nIast {q n j : Nat} {x : Int32} (hd : decode md.2.1 pc = .ok (.iastore, 1)) (hs : aSh (sh, I, L, R) q = some (0, n)) (hj : j < n) (hn : n < 2 ^ 31) (k : aX md E (sh, aU I q j x, L, R) (pc + 1) lv st bc bs Q) : aX md E (sh, I, L, R) pc lv (.int x :: .int (nI j) :: .ref q :: st) bc bs Q :=
  aX_iast hd hs (vp_in_nI hj hn) (by rw [nI_clamp (by omega)]; exact k)
theorem nZast {q n j : Nat} {b : Bool} (hd : decode md.2.1 pc = .ok (.bastore, 1)) (hs : aSh (sh, I, L, R) q = some (1, n)) (hj : j < n) (hn : n < 2 ^ 31) (k : aX md E (sh, aU I q j (bI b), L, R) (pc + 1) lv st bc bs Q) : aX md E (sh, I, L, R) pc lv (.int (bI b) :: .int (nI j) :: .ref q :: st) bc bs Q :=
  aX_zast hd hs (vp_in_nI hj hn) (by rw [nI_clamp (by omega), show vp_nar .boolean (bI b) = bI b by cases b <;> rfl]; exact k)
theorem nBast {q n j : Nat} {x : Int32} (hd : decode md.2.1 pc = .ok (.bastore, 1)) (hs : aSh (sh, I, L, R) q = some (2, n)) (hj : j < n) (hn : n < 2 ^ 31) (k : aX md E (sh, aU I q j x.toInt8.toInt32, L, R) (pc + 1) lv st bc bs Q) : aX md E (sh, I, L, R) pc lv (.int x :: .int (nI j) :: .ref q :: st) bc bs Q :=
  aX_bast hd hs (vp_in_nI hj hn) (by rw [nI_clamp (by omega), vp_nar_byte]; exact k)
theorem nLast {q n j : Nat} {x : Int64} (hd : decode md.2.1 pc = .ok (.lastore, 1)) (hs : aSh (sh, I, L, R) q = some (3, n)) (hj : j < n) (hn : n < 2 ^ 31) (k : aX md E (sh, I, aU L q j x, R) (pc + 1) lv st bc bs Q) : aX md E (sh, I, L, R) pc lv (.long x :: .int (nI j) :: .ref q :: st) bc bs Q :=
  aX_last hd hs (vp_in_nI hj hn) (by rw [nI_clamp (by omega)]; exact k)
/-- a field that is no final one is written -/
theorem pI {idx ci f z q : Nat} {x : Int32} (hd : decode md.2.1 pc = .ok (.putfield idx, 3)) (hL : aLkF md.1.cls idx ci f) (hfin : ∀ C T N, vwCl[ci]? = some (C, T, N) → (T f).2.2.2 = false ∨ (C = md.1.cls ∧ md.1.name = "<init>")) (hs : aSh (sh, I, L, R) q = some (10 + ci, z)) (ht : aT ci f = .int) (k : aX md E (sh, aU I q f x, L, R) (pc + 3) lv st bc bs Q) : aX md E (sh, I, L, R) pc lv (.int x :: .ref q :: st) bc bs Q :=
  aX_put hd hL hfin hs (by rw [ht]; exact trivial) (by rw [ht]; exact k)
theorem pZ {idx ci f z q : Nat} {b : Bool} (hd : decode md.2.1 pc = .ok (.putfield idx, 3)) (hL : aLkF md.1.cls idx ci f) (hfin : ∀ C T N, vwCl[ci]? = some (C, T, N) → (T f).2.2.2 = false ∨ (C = md.1.cls ∧ md.1.name = "<init>")) (hs : aSh (sh, I, L, R) q = some (10 + ci, z)) (ht : aT ci f = .boolean) (k : aX md E (sh, aU I q f (bI b), L, R) (pc + 3) lv st bc bs Q) : aX md E (sh, I, L, R) pc lv (.int (bI b) :: .ref q :: st) bc bs Q :=
  aX_put hd hL hfin hs (by rw [ht]; exact bI_01 b) (by rw [ht]; exact k)
theorem pL {idx ci f z q : Nat} {x : Int64} (hd : decode md.2.1 pc = .ok (.putfield idx, 3)) (hL : aLkF md.1.cls idx ci f) (hfin : ∀ C T N, vwCl[ci]? = some (C, T, N) → (T f).2.2.2 = false ∨ (C = md.1.cls ∧ md.1.name = "<init>")) (hs : aSh (sh, I, L, R) q = some (10 + ci, z)) (ht : aT ci f = .long) (k : aX md E (sh, I, aU L q f x, R) (pc + 3) lv st bc bs Q) : aX md E (sh, I, L, R) pc lv (.long x :: .ref q :: st) bc bs Q :=
  aX_put hd hL hfin hs (by rw [ht]; exact trivial) (by rw [ht]; exact k)
end ACS
