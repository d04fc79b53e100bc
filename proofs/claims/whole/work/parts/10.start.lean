def R_law : String := "JustMovesLaw"
def lw_P (b : Addr) (xs : List Int32) (args : Array Value) (s : State) : Prop := args = #[.ref b] ∧ s.IntsAt b xs ∧ xs.length ≤ 2560 ∧ (Jvm.Cond.and given_1 narrow_1).before args s = true
def lw_Q (_ : Array Value) (s : State) (o : Outcome) (t : State) : Prop := o = .returned (some (.int 1)) ∧ Framed s o t [] 600000 7302250
def lw_Z (below : List Frame) (a : Array Value) (s : State) : State → Prop := fun t => ∃ o, t.status = .running ∧ Ended t below o ∧ lw_Q a s o t
/-- the law's own end, with 1 on the stack, nothing written that was there before, its room as the claim has it -/
theorem lw_ret {p : Program} {l : Launch} {e : Env} {s : State} {m : MethodId} {below : List Frame} {meth : Method} {c : Code} {b : Nat} (hx : p.tables.exec = Jvm.exec) (hb : c.code = code) (hr : meth.sig.returnType = ret) (hlocks : meth.locks = false) {pc : Nat} {H : Heap} {ls : Array Slot} (hdg : decode code pc = .ok (.ireturn, 1)) : W p l e room_1 s m #[Value.ref b] below meth c H [] 600000 7302250 (lw_Z below #[Value.ref b] s) (F0 m pc ls [.int 1]) := by
  intro T hT X
  obtain ⟨fs, hret, hrun, hended, hW, hframe⟩ := X.leave (v := some (.int 1)) (hlocks := hlocks) (fun h => by rw [hr] at h; cases h)
  have hmeth' : T.vm.method? m = some meth := X.method'
  refine ⟨T.setFrames fs, ?_, .returned (some (.int 1)), hrun, hended, rfl, ⟨_, rfl⟩, hW, hframe⟩
  jvm_step X.here [X.here.top, hx, hb, hdg, hmeth', hr, ret, narrow_b1]
  (try refine ⟨rfl, ?_⟩); (try refine ⟨rfl, ?_⟩)
  first | (intro acts; rw [hret _ acts rfl rfl rfl]) | rw [hret _ _ rfl rfl rfl]
  exact Steps.refl _
/-- what holds at the law's entry: the machine, the code, the tables' words (any of lw_tbl by 'hts w (by decide +kernel)'), the script of L ints xs at the cell b, what the Statement gives of the start (any of its parts by flat_of_before) -/
def lw_At (p : Program) (s : State) (m : MethodId) (meth : Method) (c : Code) (b L : Nat) (xs : Nat → Int32) : Prop :=
  p.tables.exec = Jvm.exec ∧ c.code = code ∧ meth.sig.returnType = ret ∧ c.maxLocals = 4 ∧ s.vm.findClass R_law = some m.cls ∧ (∀ w ∈ lw_tbl, w.before #[Value.ref b] s = true) ∧ va_X b L xs s s.heap ∧ b < s.heap.size ∧ meth.locks = false ∧ (Jvm.Cond.and given_1 narrow_1).before #[Value.ref b] s = true
/-! FROM THE ABSTRACT MACHINE TO THE CLAIM'S START -/
def md_law : aMd := (yL_law, code, 4, some .boolean, room_1)
def aH0 : aH := ([], fun _ _ => 0, fun _ _ => 0, fun _ _ => none)
theorem aTbl_in {i : Nat} {w : Cond} (h : tables_1[i]? = some w) : w ∈ lw_tbl := List.mem_append_right _ (List.mem_of_getElem? h)
theorem aOne {args : Array Value} {s : State} {nm : String} {N : Nat} {f : Nat → Int32} {A : Nat → Prop} (hN : N < 2 ^ 31) (hs : ∀ c ∈ flatC (Jvm.Cond.and given_1 narrow_1), c.before args s = true) (hl : (Cond.laysStatic "JustMoves" nm "[I").before args s = true) (hini : (Cond.initialized "JustMoves").before args s = true) (hA : ∀ a : Nat, a < s.heap.size → ¬ A a)
    (q1 : Cond.arrayOf (.static "JustMoves" nm "[I") .int ∈ flatC (Jvm.Cond.and given_1 narrow_1)) (q2 : Cond.eq (.length (.static "JustMoves" nm "[I")) (.int (Int32.ofNat N)) ∈ flatC (Jvm.Cond.and given_1 narrow_1)) (q3 : ∀ j, j < N → Cond.eq (.elem (.static "JustMoves" nm "[I") (.int (Int32.ofNat j))) (.int (f j)) ∈ flatC (Jvm.Cond.and given_1 narrow_1)) :
    ∃ t : Nat, va_Z "JustMoves" nm "[I" (.ref t) A s s.heap ∧ va_T .int t N (fun n => .int (f n)) A s s.heap := by
  obtain ⟨t, h1, h2⟩ := va_Tof (tm := .static "JustMoves" nm "[I") (f := fun n => Value.int (f n)) hN (hs _ q1) (va_eqt (hs _ q2)) (fun j hj => va_eqt (hs _ (q3 j hj))) hA
  exact ⟨t, va_Zof hl hini h1 hA, h2⟩
theorem aKnown {s : State} {args : Array Value} (hts : ∀ w ∈ aTb, w.before args s = true) : ∃ D : va_G, ∀ (k : Nat) (q : vw_C), vwCl[k]? = some q → u_Kn s q.1 q.2.1 q.2.2 (D.1 k) (D.2 k) := by
  have key : ∀ (k : Nat), ∃ (cC : ClassId) (iS : Nat → Nat), ∀ q : vw_C, vwCl[k]? = some q → u_Kn s q.1 q.2.1 q.2.2 cC iS := by
    intro k
    cases hk : vwCl[k]? with
    | none => exact ⟨0, fun _ => 0, fun q h => by cases h⟩
    | some q =>
      obtain ⟨C, T, N⟩ := q
      obtain ⟨w1, w2⟩ := aCls k C T N hk
      obtain ⟨cC, iS, h⟩ := u_known (C := C) (T := T) (N := N) (n := N) hts w1 (hts _ w2)
      exact ⟨cC, iS, fun q hq => by cases hq; exact h⟩
  exact ⟨(fun k => Classical.choose (key k), fun k => Classical.choose (Classical.choose_spec (key k))), fun k q hq => Classical.choose_spec (Classical.choose_spec (key k)) q hq⟩
theorem aArrP {s : State} {args : Array Value} {ty : FieldType} (h : (Cond.arrayClass ty).before args s = true) (hty : ∀ C, ty ≠ .object C) : ∃ cA : ClassId, ArrOfT s cA ty ∧ va_RA s cA ty := by
  obtain ⟨cA, kA, comp, h1, h2, h3⟩ := Cond.arrayClass_spec h
  refine ⟨cA, fun n z => ⟨fun k h => (by cases h), kA, h2, comp, h3⟩, ?_⟩
  cases ty with
  | object C => exact absurd rfl (hty C)
  | _ => exact h1
theorem aArrO {s : State} {args : Array Value} {C : String} (h : (Cond.arrayOver (.object C)).before args s = true) : ∃ cA : ClassId, ArrOfT s cA (.object C) ∧ va_RA s cA (.object C) := by
  obtain ⟨comp, c, k, h1, h2, h3, h4, h5⟩ := Cond.arrayOver_spec h
  exact ⟨c, fun n z => ⟨fun k h => (by cases h), k, h3, comp, h4⟩, k, comp, h3, h4, h1, h5⟩
theorem aArrA {s : State} {args : Array Value} (h : (Cond.arrayOver (.array .long)).before args s = true) : ∃ cA : ClassId, ArrOfT s cA (.array .long) ∧ va_RA s cA (.array .long) := by
  have h9 : (Cond.arrayOver (.array .long)).holds args s none s [] = true := h
  simp only [Cond.holds, Cond.value, beq_iff_eq] at h9
  cases hc : s.vm.findClass (FieldType.array .long).toString with
  | none => simp [hc] at h9
  | some comp =>
    simp only [hc, Option.bind_some, Option.bind_eq_some_iff, Option.map_eq_some_iff] at h9
    obtain ⟨c, -, k, hk, hb⟩ := h9
    cases hkind : k.kind with
    | array cm ty =>
      rw [hkind] at hb
      simp only [Bool.and_eq_true, decide_eq_true_eq] at hb
      obtain ⟨hb1, hb2⟩ := hb
      subst hb1
      exact ⟨c, fun n z => ⟨fun k h => (by cases h), k, hk, cm, hkind⟩, hb2⟩
    | _ => rw [hkind] at hb; cases hb
set_option maxHeartbeats 4000000 in
set_option maxRecDepth 100000 in
theorem aBegin {p : Program} {e : Env} {s : State} {m : MethodId} {below : List Frame} {meth : Method} {c : Code} (l : Launch) {b L : Nat} {xs : Nat → Int32} (C0 : lw_At p s m meth c b L xs) (run : aX md_law (aE0 ++ [(L, xs)]) aH0 0 [(0, .ref 7)] [] 600000 7302250 (fun r _ => r = some (.int 1))) :
    W p l e room_1 s m #[Value.ref b] below meth c s.heap [] 0 0 (lw_Z below #[Value.ref b] s) (entryFrame m ([Value.ref b] : List Value).toArray 4) := by
  obtain ⟨hx, hb, hr, hml, hown, hts, hX, hbl, hlocks, hgv⟩ := id C0
  have hflat := flat_of_before _ hgv
  have htb : ∀ w ∈ aTb, w.before #[Value.ref b] s = true := fun w hw => hts w (List.mem_filter.mp hw).1
  have hA : ∀ a : Nat, a < s.heap.size → ¬ (fun q : Nat => s.heap.size ≤ q) a := fun a h => Nat.not_le.mpr h
  obtain ⟨D, hD⟩ := aKnown htb
  obtain ⟨t0, hz0, ht0⟩ := aOne (nm := "FIRST_UP") (N := 12) (f := fun n => (([1, 16, 9, 6, 5, 4, 45, 3, 8, 5, 9, 15] : List Int32).getD n 0)) (by decide) hflat (hts _ (aNi1 (i := 32) rfl)) (hts _ (aNi1 (i := 1) rfl)) hA (by decide +kernel) (by decide +kernel) (by decide +kernel)
  obtain ⟨t1, hz1, ht1⟩ := aOne (nm := "FIRST_DOWN") (N := 12) (f := fun n => (([1, 15, 8, 5, 4, 3, 32, 2, 5, 3, 5, 8] : List Int32).getD n 0)) (by decide) hflat (hts _ (aNi1 (i := 34) rfl)) (hts _ (aNi1 (i := 1) rfl)) hA (by decide +kernel) (by decide +kernel) (by decide +kernel)
  obtain ⟨t2, hz2, ht2⟩ := aOne (nm := "PRIMES") (N := 6) (f := fun n => (([2, 3, 5, 7, 11, 13] : List Int32).getD n 0)) (by decide) hflat (hts _ (aNi1 (i := 44) rfl)) (hts _ (aNi1 (i := 1) rfl)) hA (by decide +kernel) (by decide +kernel) (by decide +kernel)
  obtain ⟨t3, hz3, ht3⟩ := aOne (nm := "LOGS") (N := 6) (f := fun n => (([120000, 190196, 278631, 336883, 415132, 444053] : List Int32).getD n 0)) (by decide) hflat (hts _ (aNi1 (i := 49) rfl)) (hts _ (aNi1 (i := 1) rfl)) hA (by decide +kernel) (by decide +kernel) (by decide +kernel)
  obtain ⟨t4, hz4, ht4⟩ := aOne (nm := "FIRST_WEIGHTS") (N := 5) (f := fun n => (([100000, 1, 4, 2, 1] : List Int32).getD n 0)) (by decide) hflat (hts _ (aNi1 (i := 204) rfl)) (hts _ (aNi1 (i := 1) rfl)) hA (by decide +kernel) (by decide +kernel) (by decide +kernel)
  obtain ⟨t5, hz5, ht5⟩ := aOne (nm := "GREATEST_WEIGHTS") (N := 5) (f := fun n => (([1000000, 99, 99, 99, 99] : List Int32).getD n 0)) (by decide) hflat (hts _ (aNi3 (i := 46) rfl)) (hts _ (aNi1 (i := 1) rfl)) hA (by decide +kernel) (by decide +kernel) (by decide +kernel)
  obtain ⟨t6, hz6, ht6⟩ := aOne (nm := "MODULI") (N := 20) (f := fun n => (([1073741789, 1073741783, 1073741741, 1073741723, 1073741719, 1073741717, 1073741689, 1073741671, 1073741663, 1073741651, 1073741621, 1073741567, 1073741561, 1073741527, 1073741503, 1073741477, 1073741467, 1073741441, 1073741419, 1073741399] : List Int32).getD n 0)) (by decide) hflat (hts _ (aNi4 (i := 38) rfl)) (hts _ (aNi1 (i := 1) rfl)) hA (by decide +kernel) (by decide +kernel) (by decide +kernel)
  obtain ⟨cy0, hy0⟩ := aArrP (ty := .int) (hts _ (aNi1 (i := 72) rfl)) (fun C h => by cases h)
  obtain ⟨cy1, hy1⟩ := aArrP (ty := .boolean) (hts _ (aNi1 (i := 149) rfl)) (fun C h => by cases h)
  obtain ⟨cy2, hy2⟩ := aArrP (ty := .byte) (hts _ (aNi1 (i := 202) rfl)) (fun C h => by cases h)
  obtain ⟨cy3, hy3⟩ := aArrP (ty := .long) (hts _ (aNi2 (i := 26) rfl)) (fun C h => by cases h)
  have hO : (Cond.arrayOver (.object "JustMoves$Whole")).before #[Value.ref b] s = true := hts _ (aNi2 (i := 115) rfl)
  have hAA : (Cond.arrayOver (.array .long)).before #[Value.ref b] s = true := hts _ (aNi2 (i := 71) rfl)
  obtain ⟨cy4, hy4⟩ := aArrO hO
  obtain ⟨cy5, hy5⟩ := aArrA hAA
  have hK : va_K D vwCl (aTys (D, fun k => match k with | 0 => cy0 | 1 => cy1 | 2 => cy2 | 3 => cy3 | 4 => cy4 | _ => cy5)) s := by
    refine ⟨hD, fun k q hq => ?_⟩
    match k, hq with
    | 0, hq => cases hq; exact hy0
    | 1, hq => cases hq; exact hy1
    | 2, hq => cases hq; exact hy2
    | 3, hq => cases hq; exact hy3
    | 4, hq => cases hq; exact hy4
    | 5, hq => cases hq; exact hy5
    | k + 6, hq => simp at hq
  have hTx : va_T .int b L (fun n => .int (xs n)) (fun q : Nat => s.heap.size ≤ q) s s.heap := by
    obtain ⟨scr, h1, h2, h3, h4, h5⟩ := hX
    exact ⟨scr, h1, h2, h3, Nat.le_of_eq h4.symm, by rw [h4], h5, Nat.not_le.mpr hbl⟩
  have hk : aK (D, fun k => match k with | 0 => cy0 | 1 => cy1 | 2 => cy2 | 3 => cy3 | 4 => cy4 | _ => cy5) (aE0 ++ [(L, xs)]) (fun k => match k with | 0 => t0 | 1 => t1 | 2 => t2 | 3 => t3 | 4 => t4 | 5 => t5 | 6 => t6 | 7 => b | _ => 0) (fun q : Nat => s.heap.size ≤ q) s := by
    refine ⟨hK, fun _ h => h, by simp [aE0], fun i q hq => ?_, fun i nm hi => ?_, fun w hw => ?_, hO, hAA⟩
    · match i, hq with
      | 0, hq => cases hq; exact ht0
      | 1, hq => cases hq; exact ht1
      | 2, hq => cases hq; exact ht2
      | 3, hq => cases hq; exact ht3
      | 4, hq => cases hq; exact ht4
      | 5, hq => cases hq; exact ht5
      | 6, hq => cases hq; exact ht6
      | 7, hq => cases hq; exact hTx
      | k + 8, hq => simp [aE0] at hq
    · match i, hi with
      | 0, hi => cases hi; exact hz0
      | 1, hi => cases hi; exact hz1
      | 2, hi => cases hi; exact hz2
      | 3, hi => cases hi; exact hz3
      | 4, hi => cases hi; exact hz4
      | 5, hi => cases hi; exact hz5
      | 6, hi => cases hi; exact hz6
      | k + 7, hi => simp [aSt] at hi
    · have hm : w ∈ lw_tbl := aNs_in w hw
      refine va_Nw.of ?_ (hts w hm)
      unfold aNs at hw
      simp only [List.mem_cons, List.not_mem_nil, or_false] at hw
      rcases hw with rfl | rfl | rfl | rfl | rfl | rfl | rfl | rfl | rfl | rfl | rfl <;> rfl
  have hl := lv_entry ([.ref b]) (n := 4) (Nat.le_of_ble_eq_true rfl)
  rw [lg_entry_eq]
  refine run p l e s m #[Value.ref b] below meth c _ _ (fun q : Nat => s.heap.size ≤ q) s.heap [] 0 0 _ _ ⟨hx, hb, hml, hown, htb, fun z => absurd z (by decide), hk⟩ ⟨fun k q h => by simp [aWs, aH0] at h, ⟨fun i j p q h => by simp [aWs, aH0] at h, fun k q h => by simp [aWs, aH0] at h⟩, va_S.rf⟩ hl (Nat.le_of_eq (Nat.zero_add _)) (Nat.le_of_eq (Nat.zero_add _)) ?_
  intro ad' h' r H locs cells slots pc ls hLe hR hc1 hc2 hq hret
  subst hq
  refine W.widen (k := 600000) (n := 7302250) hc1 hc2 (va_forget hR.2.2.2.2 ?_)
  exact lw_ret hx hb hr hlocks hret.1
