/-! ROWS OF LONGS, MADE AT ONE STEP -/
def gA (cA : ClassId) (N h0 i : Nat) : Cell := arrV cA N (fun j => if j < i then .ref (h0 + 1 + j) else .null)
def gB (comp : ClassId) (M : Nat) : Cell := arrV comp M (fun _ => .long 0)
def gF (T : State) (cA comp : ClassId) (N M : Nat) : Nat → State
  | 0 => T.pushCell (gA cA N T.heap.size 0)
  | i + 1 => ((gF T cA comp N M i).pushCell (gB comp M)).setCell T.heap.size (gA cA N T.heap.size (i + 1))
theorem gA_step {cA : ClassId} {N h0 i : Nat} : (gA cA N h0 i).setSlot i (.ref (h0 + 1 + i)) = gA cA N h0 (i + 1) := by
  unfold gA
  rw [arrV_store]
  congr 1
  funext j
  unfold updV
  by_cases e : j = i
  · subst e; rw [if_pos rfl, if_pos (by omega)]
  · rw [if_neg e]
    show (if j < i then Value.ref (h0 + 1 + j) else Value.null) = _
    by_cases g : j < i
    · rw [if_pos g, if_pos (by omega)]
    · rw [if_neg g, if_neg (by omega)]
theorem gF_f (T : State) (cA comp : ClassId) (N M : Nat) : ∀ i, (gF T cA comp N M i).heap.size = T.heap.size + 1 + i ∧ (gF T cA comp N M i).heap[T.heap.size]? = some (gA cA N T.heap.size i) ∧ (gF T cA comp N M i).vm = T.vm ∧ (gF T cA comp N M i).slotsUsed = T.slotsUsed + N + i * M ∧ (∀ a : Nat, a < T.heap.size → (gF T cA comp N M i).heap[a]? = T.heap[a]?) ∧ ∀ j, j < i → (gF T cA comp N M i).heap[T.heap.size + 1 + j]? = some (gB comp M)
  | 0 => ⟨by simp [gF], by simp [gF], rfl, by simp [gF, gA, arrV], fun a ha => State.heap_pushCell_of_lt _ _ ha, fun j hj => absurd hj (Nat.not_lt_zero _)⟩
  | i + 1 => by
    obtain ⟨a1, a2, a3, a4, a5, a6⟩ := gF_f T cA comp N M i
    have hl : ∀ a : Nat, a < T.heap.size + 1 + i → ((gF T cA comp N M i).pushCell (gB comp M)).heap[a]? = (gF T cA comp N M i).heap[a]? := fun a ha => State.heap_pushCell_of_lt _ _ (by rw [a1]; exact ha)
    have hb : ((gF T cA comp N M i).pushCell (gB comp M)).heap[T.heap.size]? = some (gA cA N T.heap.size i) := (hl _ (by omega)).trans a2
    refine ⟨?_, State.heap_setCell_self hb, by simp [gF, a3], ?_, fun a ha => ?_, fun j hj => ?_⟩
    · simp [gF, State.setCell, a1]; omega
    · simp [gF, a4, gB, arrV, Nat.succ_mul]; omega
    · show (((gF T cA comp N M i).pushCell (gB comp M)).setCell T.heap.size _).heap[a]? = _
      rw [State.heap_setCell_other (Nat.ne_of_gt ha), hl a (by omega)]; exact a5 a ha
    · show (((gF T cA comp N M i).pushCell (gB comp M)).setCell T.heap.size _).heap[T.heap.size + 1 + j]? = _
      rw [State.heap_setCell_other (show (T.heap.size : Nat) ≠ T.heap.size + 1 + j from by omega)]
      by_cases e : j = i
      · subst e; rw [← a1]; exact State.heap_pushCell_size _ _
      · rw [hl _ (by omega)]; exact a6 j (by omega)
theorem gF_top (T : State) (f : JFrame) (cA comp : ClassId) (N M : Nat) : ∀ i, gF (T.setTop f) cA comp N M i = (gF T cA comp N M i).setTop f
  | 0 => rfl
  | i + 1 => by simp only [gF, gF_top T f cA comp N M i, State.heap_setTop, State.pushCell_setTop, State.setCell_setTop]
section GM
variable {p : Program} {l : Launch} {e : Env} {R : Room} {s : State} {m : MethodId} {args : Array Value} {below : List Frame} {meth : Method} {c : Code} {T : State} {locs : List Loc} {cells slots : Nat}
theorem gF_st (X : Stand p l e R s m args below meth c T locs cells slots) (cA comp : ClassId) (N M : Nat) : ∀ i, Stand p l e R s m args below meth c (gF T cA comp N M i) locs (cells + 1 + i) (slots + N + i * M)
  | 0 => by
    have h := X.pushed (gA cA N T.heap.size 0)
    rw [show (gA cA N T.heap.size 0).slots.size = N from arrV_size _ _ _] at h
    rw [Nat.zero_mul]; exact h
  | i + 1 => by
    have Xi := gF_st X cA comp N M i
    obtain ⟨a1, a2, -⟩ := gF_f T cA comp N M i
    have hb : ((gF T cA comp N M i).pushCell (gB comp M)).heap[T.heap.size]? = some (gA cA N T.heap.size i) := (State.heap_pushCell_of_lt _ _ (by rw [a1]; exact (show (T.heap.size : Nat) < T.heap.size + 1 + i from by omega))).trans a2
    have h := ((Xi.pushed (gB comp M)).stored hb i (.ref (T.heap.size + 1 + i))).dropFresh (fun x hx => by rw [List.mem_singleton.mp hx]; exact X.heapGrown)
    rw [gA_step, show (gB comp M).slots.size = M from arrV_size _ _ _] at h
    rw [show slots + N + (i + 1) * M = slots + N + i * M + M by rw [Nat.succ_mul]; omega]
    exact h
end GM
section GW
variable {E : CtlPost} {e : Env} {d : Bool} {acts : List Action} {s : State}
theorem gW1 {comp cc : ClassId} {kc : Class} {m : Int32} (hkc : s.vm.classes[comp]? = some kc) (hkind : kc.kind = .array cc .long) (hm : ¬ m < 0) (hl : ¬ m.toNatClampNeg > e.platform.arrayLengthLimit) (hh : ¬ m.toNatClampNeg * 8 > e.platform.maxHeapBytes) (h1 : s.heap.size < e.platform.maxCells) (h2 : s.slotsUsed + m.toNatClampNeg ≤ e.platform.maxSlots) {Q : Addr → Pre} (hq : ∀ acts', Q s.heap.size d acts' (s.pushCell (gB comp m.toNatClampNeg))) : wp (multianewarray.make comp [m]) Q E e d acts s := by
  rw [multianewarray.make]
  simp only [wp_bind', W.ite, hm, if_false, wp_pure', W.theClass, hkc, hkind, Option.some.injEq, exists_eq_left']
  refine W.newArray_of hkc hkind hl hh h1 h2 rfl (fun acts' => ?_)
  have := hq acts'
  rw [gB, ← arrV_new] at this
  exact this
theorem gW2 {cA comp cc : ClassId} {k kc : Class} {n m : Int32} (hk : s.vm.classes[cA]? = some k) (hkind : k.kind = .array comp (.array .long)) (hkc : s.vm.classes[comp]? = some kc) (hkindc : kc.kind = .array cc .long) (hn : ¬ n < 0) (hm : ¬ m < 0) (hl1 : ¬ n.toNatClampNeg > e.platform.arrayLengthLimit) (hh1 : ¬ n.toNatClampNeg * 4 > e.platform.maxHeapBytes) (hl2 : ¬ m.toNatClampNeg > e.platform.arrayLengthLimit) (hh2 : ¬ m.toNatClampNeg * 8 > e.platform.maxHeapBytes) (hc : s.heap.size + 1 + n.toNatClampNeg ≤ e.platform.maxCells) (hs : s.slotsUsed + n.toNatClampNeg + n.toNatClampNeg * m.toNatClampNeg ≤ e.platform.maxSlots) {Q : Addr → Pre} (hq : ∀ d' acts', Q s.heap.size d' acts' (gF s cA comp n.toNatClampNeg m.toNatClampNeg n.toNatClampNeg)) : wp (multianewarray.make cA [n, m]) Q E e d acts s := by
  generalize hN : n.toNatClampNeg = N at *
  generalize hM : m.toNatClampNeg = M at *
  rw [multianewarray.make]
  simp only [wp_bind', W.ite, hn, if_false, wp_pure', W.theClass, hk, hkind, Option.some.injEq, exists_eq_left']
  rw [hN]
  refine W.newArray_of hk hkind hl1 hh1 (by omega) (by have := Nat.zero_le (N * M); omega) rfl (fun acts1 => ?_)
  have hf : ([m].find? (· < 0)) = none := by simp [hm]
  simp only [hf]
  rw [ite_self, wp_bind', Std.Legacy.Range.forIn_eq_forIn_range']
  rw [show ([:N] : Std.Legacy.Range).size = N by simp [Std.Legacy.Range.size]]
  have h0 : (s.pushCell { cls := cA, slots := Array.replicate N .null }) = gF s cA comp N M 0 := by
    show _ = s.pushCell (arrV cA N (fun j => if j < 0 then .ref (s.heap.size + 1 + j) else .null))
    rw [show (fun j => if j < 0 then Value.ref (s.heap.size + 1 + j) else .null) = fun _ => Value.null from funext fun j => if_neg (Nat.not_lt_zero _), ← arrV_new]
  rw [h0]
  refine wp_forIn_inv (fun rest s' => ∃ i, i ≤ N ∧ rest = List.range' i (N - i) ∧ s' = gF s cA comp N M i) _ _ ⟨0, Nat.zero_le _, rfl, rfl⟩ ?_ ?_
  · rintro x rest s' d' acts' Q' ⟨i, hi, hr, rfl⟩ hnext
    have hlt : i < N := by
      apply Decidable.byContradiction; intro g
      rw [show N - i = 0 by omega] at hr; simp at hr
    rw [show N - i = (N - (i + 1)) + 1 by omega, List.range'_succ] at hr
    obtain ⟨rfl, rfl⟩ := List.cons.inj hr
    obtain ⟨a1, a2, a3, a4, -⟩ := gF_f s cA comp N M x
    have hmul : x * M + M ≤ N * M := by
      have := Nat.mul_le_mul_right M (show x + 1 ≤ N from hlt)
      rw [Nat.succ_mul] at this; exact this
    simp only [wp_bind']
    refine gW1 (by rw [a3]; exact hkc) hkindc hm (by rw [hM]; exact hl2) (by rw [hM]; exact hh2) (by rw [a1]; omega) (by rw [a4, hM]; omega) (fun acts2 => ?_)
    rw [hM]
    simp only [wp_bind', W.writeLoc, wp_pure']
    refine ⟨gA cA N s.heap.size x, (State.heap_pushCell_of_lt _ _ (by rw [a1]; exact (show (s.heap.size : Nat) < s.heap.size + 1 + x from by omega))).trans a2, by simp [gA, arrV], by rw [show (gA cA N s.heap.size x).slots.size = N from arrV_size _ _ _]; exact hlt, ?_, hnext _ _ _ ⟨x + 1, hlt, rfl, ?_⟩⟩
    · simp [gA, arrV, State.fitsSlot, State.slotType?, a3, hk, hkind]; rfl
    · rw [a1, gA_step]; rfl
  · rintro s' d' acts' ⟨i, hi, hr, rfl⟩
    have : i = N := by
      apply Decidable.byContradiction; intro g
      rw [show N - i = (N - (i + 1)) + 1 by omega, List.range'_succ] at hr; cases hr
    subst this
    simp only [wp_pure']
    exact hq _ _
end GW
theorem gW {p : Program} {l : Launch} {e : Env} {R : Room} {s : State} {m : MethodId} {args : Array Value} {below : List Frame} {meth : Method} {c : Code} {H : Heap} {locs : List Loc} {cells slots : Nat} {Q : State → Prop} {cc : ByteArray} {pc : Nat} {ls : Array Slot} {rest : List Value} (hexec : p.tables.exec = Jvm.exec) (hb : c.code = cc) {own : String} {index : Nat} (hown : s.vm.findClass own = some m.cls) (hclink : (Cond.classLink own index ("[" ++ (FieldType.array .long).toString)).before args s = true) (hover : (Cond.arrayOver (.array .long)).before args s = true) (harr : (Cond.arrayClass .long).before args s = true) (hdg : decode cc pc = .ok (.multianewarray index 2, 4)) {n k : Int32} {N M : Nat} (hn : ¬ n < 0) (hk : ¬ k < 0) (hN : n.toNatClampNeg = N) (hM : k.toNatClampNeg = M) (hN1 : N ≤ 65536) (hM1 : M ≤ 65536) (hcells : cells + (1 + N) ≤ R.cells) (hslots : slots + (N + N * M) ≤ R.slots)
    (kk : ∀ (cA comp : ClassId) (H1 : Heap), s.vm.findClass ("[" ++ (FieldType.array .long).toString) = some cA → s.vm.findClass (FieldType.array .long).toString = some comp → H1.size = H.size + 1 + N → H1[H.size]? = some (gA cA N H.size N) → (∀ a : Nat, a < H.size → H1[a]? = H[a]?) → (∀ j, j < N → H1[H.size + 1 + j]? = some (gB comp M)) → W p l e R s m args below meth c H1 locs (cells + 1 + N) (slots + N + N * M) Q (F0 m (pc + 4) ls (.ref H.size :: rest))) :
    W p l e R s m args below meth c H locs cells slots Q (F0 m pc ls (.int k :: .int n :: rest)) := by
  intro T hT X
  subst hT; subst hb
  have hpl : e.platform.magicAccessors = ({} : Platform).magicAccessors := by rw [X.admits.platform]
  obtain ⟨comp, cA, kA, hcomp, -, hkA, hkindA, hnameA⟩ := arrayOverA_spec hover
  obtain ⟨comp', kC, cc', hcomp', hkC, hkindC⟩ := Cond.arrayClass_spec harr
  have ec : comp' = comp := Option.some.inj (hcomp'.symm.trans hcomp)
  subst ec
  obtain ⟨c0, hfc0, hcl⟩ := Cond.classLink_spec hown hclink e.platform hpl
  have ec : c0 = cA := Option.some.inj (hfc0.symm.trans hnameA)
  subst ec
  obtain ⟨hg1, hwarm, hready⟩ := State.classEntry (e := e) X.warmed hcl
  generalize T.vm.noted m.cls index (.cls c0) = vm1 at hg1 hwarm hready
  obtain ⟨kA1, hkA1, heA⟩ := hwarm.alike.2.2 _ _ hkA
  obtain ⟨kC1, hkC1, heC⟩ := hwarm.alike.2.2 _ _ hkC
  have hkindA1 : kA1.kind = .array comp' (.array .long) := by rw [heA]; exact hkindA
  have hkindC1 : kC1.kind = .array cc' .long := by rw [heC]; exact hkindC
  have XF := gF_st (X.noted hwarm) c0 comp' N M N
  obtain ⟨hr1, hr2⟩ := X.roomAbove hcells hslots
  obtain ⟨a1, a2, -, -, a5, a6⟩ := gF_f (T.setVm vm1) c0 comp' N M N
  obtain ⟨t, b1, b2⟩ := kk c0 comp' _ hnameA hcomp a1 a2 a5 a6 _ rfl XF
  refine ⟨t, ?_, b2⟩
  have hl1 : ¬ n.toNatClampNeg > e.platform.arrayLengthLimit := by rw [Launch.admits_arrayLengthLimit X.admits]; omega
  have hh1 : ¬ n.toNatClampNeg * 4 > e.platform.maxHeapBytes := by rw [Launch.admits_maxHeapBytes X.admits]; omega
  have hl2 : ¬ k.toNatClampNeg > e.platform.arrayLengthLimit := by rw [Launch.admits_arrayLengthLimit X.admits]; omega
  have hh2 : ¬ k.toNatClampNeg * 8 > e.platform.maxHeapBytes := by rw [Launch.admits_maxHeapBytes X.admits]; omega
  jvm_step X.here [hexec, hdg]
  simp only [multianewarray.sem, wp_bind', W.resolveClassAt_links (State.method?_setTop (F0 m pc ls (.int k :: .int n :: rest)) X.here.top) hg1]
  rw [W.popN, if_neg (by decide)]
  refine ⟨F0 m pc ls (.int k :: .int n :: rest), State.topJava?_setTop' (s := T.setVm vm1) _ X.here.top, [.int n, .int k], rest, rfl, rfl, ?_⟩
  simp only [List.mapM_cons, List.mapM_nil, wp_bind', wp_pure']
  subst hN hM
  refine gW2 (k := kA1) (kc := kC1) (comp := comp') (cc := cc') hkA1 hkindA1 hkC1 hkindC1 hn hk hl1 hh1 hl2 hh2 (by show T.heap.size + 1 + _ ≤ _; omega) (by show T.slotsUsed + _ + _ ≤ _; omega) (fun d' acts' => ?_)
  have eS : ((T.setTop (F0 m pc ls (.int k :: .int n :: rest))).setVm vm1).setTop (F0 m pc ls rest) = (T.setVm vm1).setTop (F0 m pc ls rest) := by
    show ((T.setVm vm1).setTop _).setTop _ = _
    rw [State.setTop_setTop]
  rw [eS, gF_top]
  simp only [wp_bind', W.mark, W.pushRef, State.topJava?_setTop' _ XF.here.top, Option.some.injEq, exists_eq_left', State.setTop_setTop, State.heap_setTop]
  intro acts2
  simp [jvm, XF.here.top]
  exact b1
section MK2
variable {md : aMd} {E : aE} {pc : Nat} {lv : List (Nat × Value)} {st : List Value} {bc bs bc' bs' : Nat} {Q : Option Value → aH → Prop} {sh sh' : List (Nat × Nat)} {I : Nat → Nat → Int32} {L : Nat → Nat → Int64} {R R' : Nat → Nat → Option Nat} {id : Nat}
def aAm (ad : Nat → Nat) (id h0 : Nat) : Nat → Nat := fun q => if id ≤ q then h0 + (q - id) else ad q
theorem aAm_lt {ad : Nat → Nat} {id h0 q : Nat} (h : q < id) : aAm ad id h0 q = ad q := if_neg (by omega)
theorem aAm_ge {ad : Nat → Nat} {id h0 q : Nat} (h : id ≤ q) : aAm ad id h0 q = h0 + (q - id) := if_pos h
theorem aOkV_m {ad : Nat → Nat} {n q : Nat} {v : Value} (h : aOkV n v = true) : aV (aAm ad n q) v = aV ad v := by
  cases v with
  | ref k => exact congrArg Value.ref (aAm_lt (of_decide_eq_true h))
  | _ => rfl
theorem aLv_m {ad : Nat → Nat} {n q : Nat} {lv : List (Nat × Value)} {st : List Value} (h : aOkL n lv st = true) : aLv (aAm ad n q) lv = aLv ad lv ∧ st.map (aV (aAm ad n q)) = st.map (aV ad) := by
  unfold aOkL at h
  rw [Bool.and_eq_true, List.all_eq_true, List.all_eq_true] at h
  exact ⟨aLv_keep (fun x hx => aOkV_m (h.1 x hx)), List.map_congr_left (fun v hv => aOkV_m (h.2 v hv))⟩
theorem aEnt_m {G : aG} {ad : Nat → Nat} {id h0 n k : Nat} {sh1 sh2 : List (Nat × Nat)} (hw : ∀ a b r, R a b = some r → r < id) (hk : k < id) (z : Nat × Nat) : aEnt G (aAm ad id h0) (sh1, I, L, mulR R id n) k z = aEnt G ad (sh2, I, L, R) k z := by
  have e3 : mulR R id n k = R k := by funext j; unfold mulR; rw [if_neg (by omega)]
  have e4 : ∀ i, (R k i).map (aAm ad id h0) = (R k i).map ad := fun i => by
    cases hr : R k i with
    | none => rfl
    | some r => exact congrArg some (aAm_lt (hw k i r hr))
  have e5 : ∀ t f, aFv (aAm ad id h0) (sh1, I, L, mulR R id n) t k f = aFv ad (sh2, I, L, R) t k f := fun t f => by
    cases t <;> simp only [aFv, e3, e4]
  unfold aEnt aFs
  simp only [e3, e4, e5]
theorem gA_V {cA : ClassId} {ad : Nat → Nat} {id h0 n : Nat} : gA cA n h0 n = arrV cA n (fun j => va_rf ((mulR R id n id j).map (aAm ad id h0))) := by
  unfold gA
  congr 1
  funext j
  unfold mulR
  rw [if_pos rfl]
  by_cases g : j < n
  · rw [if_pos g, if_pos g]
    show Value.ref _ = Value.ref (aAm ad id h0 (id + 1 + j))
    rw [aAm_ge (by omega), show h0 + (id + 1 + j - id) = h0 + 1 + j by omega]
  · rw [if_neg g, if_neg g]; rfl
set_option maxHeartbeats 1000000 in
theorem nMulti {idx n k : Nat} (hd : decode md.2.1 pc = .ok (.multianewarray idx 2, 4)) (hw0 : Cond.classLink md.1.cls idx "[[J" ∈ aTb) (e1 : 8 + sh.length = id) (e2 : sh ++ (5, n) :: List.replicate n (3, k) = sh') (hw : ∀ a b r, R a b = some r → r < id) (hz : FrZ id I L) (hn : ∀ a j, id ≤ a → R a j = none) (e5 : mulR R id n = R') (hok : aOkL id lv st = true) (hbc : 1 + n ≤ bc) (hbs : n + n * k ≤ bs) (e3 : bc - (1 + n) = bc') (e4 : bs - (n + n * k) = bs') (hn0 : 0 < n) (hn1 : n ≤ 65536) (hk0 : 0 < k) (hk1 : k ≤ 65536) (kk : aX md E (sh', I, L, R') (pc + 4) lv (.ref id :: st) bc' bs' Q) : aX md E (sh, I, L, R) pc lv (.int (nI k) :: .int (nI n) :: st) bc bs Q := by
  subst e3 e4 e2 e5
  intro p l e s m args below meth c G ad A H locs cells slots ls Qm C hR hl h1 h2 F
  have hK := C.2.2.2.2.2.2
  have hnn : ¬ (nI n < 0) := nI_pos (by omega)
  have hkn : ¬ (nI k < 0) := nI_pos (by omega)
  have hover : (Cond.arrayOver (.array .long)).before args s = true := hK.2.2.2.2.2.2.2
  refine gW (N := n) (M := k) C.1 C.2.1 C.2.2.2.1 (C.2.2.2.2.1 _ hw0) hover (C.2.2.2.2.1 _ wA_long) hd hnn hkn (nI_clamp (by omega)) (nI_clamp (by omega)) hn1 hk1 (by omega) (by omega) (fun cA comp H1 f1 f2 z1 o1 o2 o3 => ?_)
  have ea : cA = G.2 5 := Option.some.inj (f1.symm.trans (show s.vm.findClass _ = some (G.2 5) from (hK.1.2 5 (G.2 5, .array .long) rfl).2))
  have eb : comp = G.2 3 := Option.some.inj (f2.symm.trans (show s.vm.findClass _ = some (G.2 3) from (hK.1.2 3 (G.2 3, .long) rfl).2))
  subst ea eb
  have hlen : (sh ++ (5, n) :: List.replicate n (3, k)).length = sh.length + 1 + n := by simp; omega
  have d1 : ∀ q, q < sh.length → (sh ++ (5, n) :: List.replicate n (3, k) : List (Nat × Nat)).getD q (0, 0) = sh.getD q (0, 0) := fun q g => by
    rw [List.getD_eq_getElem?_getD, List.getD_eq_getElem?_getD, List.getElem?_append_left g]
  have d2 : (sh ++ (5, n) :: List.replicate n (3, k) : List (Nat × Nat)).getD sh.length (0, 0) = (5, n) := by
    rw [List.getD_eq_getElem?_getD, List.getElem?_append_right (Nat.le_refl _)]; simp
  have d3 : ∀ q, sh.length < q → q < sh.length + 1 + n → (sh ++ (5, n) :: List.replicate n (3, k) : List (Nat × Nat)).getD q (0, 0) = (3, k) := fun q g hq => by
    rw [List.getD_eq_getElem?_getD, List.getElem?_append_right (by omega), show q - sh.length = (q - sh.length - 1) + 1 by omega, List.getElem?_cons_succ, List.getElem?_replicate, if_pos (by omega)]; rfl
  have old : ∀ q, q < sh.length → (aWs G ad (sh, I, L, R))[q]? = some (ad (q + 8), aEnt G ad (sh, I, L, R) (q + 8) (sh.getD q (0, 0))) := fun q hq => by
    unfold aWs
    rw [List.getElem?_map, List.getElem?_range hq]; rfl
  have alt : ∀ q, q < sh.length → ad (q + 8) < H.size := fun q hq => (hR.1 q _ (old q hq)).lt
  have hR' : aR G (aAm ad id H.size) (sh ++ (5, n) :: List.replicate n (3, k), I, L, mulR R id n) A s H1 locs := by
    refine ⟨fun q x hx => ?_, ⟨fun i j x y hx hy hxy => ?_, fun q x hx => ?_⟩, ⟨by rw [z1]; have := hR.2.2.1; omega, fun q hq hA => (o2 q (Nat.lt_of_lt_of_le hq hR.2.2.1)).trans (hR.2.2.2.1 q hq hA), hR.2.2.2.2⟩⟩
    · obtain ⟨hq, rfl⟩ := aWs_inv hx
      have hq : q < sh.length + 1 + n := hlen ▸ hq
      show va_at G.1 vwCl (aAm ad id H.size (q + 8), aEnt G (aAm ad id H.size) (sh ++ (5, n) :: List.replicate n (3, k), I, L, mulR R id n) (q + 8) ((sh ++ (5, n) :: List.replicate n (3, k)).getD q (0, 0))) H1
      rcases Nat.lt_trichotomy q sh.length with g | g | g
      · rw [d1 q g, aAm_lt (by omega), aEnt_m (sh2 := sh) hw (by omega)]
        exact (hR.1 q _ (old q g)).kept (o2 _ (alt q g))
      · subst g
        rw [d2, show sh.length + 8 = id by omega, aAm_ge (Nat.le_refl _)]
        show H1[H.size + (id - id)]? = some (vp_cell (G.2 5) (n, .inr (.inr (.inr (.inr (fun i => (mulR R id n id i).map (aAm ad id H.size)))))))
        rw [vp_cell_q, Nat.sub_self, Nat.add_zero, o1, gA_V]
      · rw [d3 q g hq, aAm_ge (by omega)]
        show H1[H.size + (q + 8 - id)]? = some (vp_cell (G.2 3) (k, .inr (.inl (L (q + 8)))))
        rw [vp_cell_l, show H.size + (q + 8 - id) = H.size + 1 + (q - sh.length - 1) by omega, o3 _ (by omega), show L (q + 8) = fun _ => 0 from funext fun j => (hz (q + 8) j (by omega)).2]
        rfl
    · obtain ⟨hi, rfl⟩ := aWs_inv hx
      obtain ⟨hj, rfl⟩ := aWs_inv hy
      have hxy : aAm ad id H.size (i + 8) = aAm ad id H.size (j + 8) := hxy
      by_cases g1 : i < sh.length
      · by_cases g2 : j < sh.length
        · rw [aAm_lt (by omega), aAm_lt (by omega)] at hxy
          exact hR.2.1.1 i j _ _ (old i g1) (old j g2) hxy
        · rw [aAm_lt (by omega), aAm_ge (by omega)] at hxy
          have := alt i g1; omega
      · by_cases g2 : j < sh.length
        · rw [aAm_ge (by omega), aAm_lt (by omega)] at hxy
          have := alt j g2; omega
        · rw [aAm_ge (by omega), aAm_ge (by omega)] at hxy
          omega
    · obtain ⟨hq, rfl⟩ := aWs_inv hx
      show A (aAm ad id H.size (q + 8))
      by_cases g : q < sh.length
      · rw [aAm_lt (by omega)]; exact hR.2.1.2 q _ (old q g)
      · rw [aAm_ge (by omega)]; exact hK.2.1 _ (Nat.le_trans hR.2.2.1 (Nat.le_add_right _ _))
  obtain ⟨w1, w2⟩ := aLv_m (ad := ad) (q := H.size) hok
  have hle : aLe (sh, I, L, R) ad (sh ++ (5, n) :: List.replicate n (3, k), I, L, mulR R id n) (aAm ad id H.size) := by
    refine ⟨?_, fun q hq => aAm_lt ?_, fun q => ?_⟩
    · show sh.length ≤ (sh ++ (5, n) :: List.replicate n (3, k)).length; rw [hlen]; omega
    · have hq : q < 8 + sh.length := hq; omega
    · have q : (sh ++ (5, n) :: List.replicate n (3, k)).length = sh.length := q; rw [hlen] at q; omega
  have ee := kk p l e s m args below meth c G (aAm ad id H.size) A H1 locs (cells + 1 + n) (slots + n + n * k) ls Qm (aCtx_ad C (fun q hq => aAm_lt (by omega))) hR' (by rw [w1]; exact hl) (by omega) (by omega) (F.tr hle)
  rw [List.map_cons, w2] at ee
  have e9 : aV (aAm ad id H.size) (.ref id) = .ref H.size := congrArg Value.ref (by rw [aAm_ge (Nat.le_refl _), Nat.sub_self, Nat.add_zero])
  rw [e9] at ee
  exact ee
end MK2
