/-! READINGS -/
theorem nx_xor (a b : Nat) : nI a ^^^ nI b = nI (a ^^^ b) := by
  apply Int32.toBitVec_inj.1
  show BitVec.ofNat 32 a ^^^ BitVec.ofNat 32 b = BitVec.ofNat 32 (a ^^^ b)
  apply BitVec.eq_of_getLsbD_eq
  intro i hi
  simp [hi]
theorem jMem_min {s : jN} {t m b : Nat} : ∀ {n : Nat}, jBs s t n = some b → m < n → jOn s m t = true → s.2.1 b ≤ s.2.1 m
  | 0, h, _, _ => by cases h
  | n + 1, h, hm, ho => by
    cases hn : jOn s n t with
    | false =>
      rw [jBs_f hn] at h
      have : m ≠ n := fun e => by subst e; rw [ho] at hn; cases hn
      exact jMem_min h (by omega) ho
    | true =>
      cases hb : jBs s t n with
      | none =>
        rw [jBs_t0 hn hb] at h
        have e := Option.some.inj h
        subst e
        rcases Nat.lt_or_ge m n with z | z
        · exfalso
          have key : ∀ j, m < j → ∃ c, jBs s t j = some c := by
            intro j
            induction j with
            | zero => intro h; omega
            | succ j ih =>
              intro h
              cases hj : jOn s j t with
              | false =>
                have : m ≠ j := fun e => by subst e; rw [ho] at hj; cases hj
                rw [jBs_f hj]; exact ih (by omega)
              | true =>
                cases hb2 : jBs s t j with
                | none => exact ⟨j, jBs_t0 hj hb2⟩
                | some c =>
                  rcases Nat.lt_or_ge (s.2.1 j) (s.2.1 c) with y | y
                  · exact ⟨j, jBs_t1 hj hb2 y⟩
                  · exact ⟨c, jBs_t2 hj hb2 y⟩
          obtain ⟨c, hc⟩ := key n z
          rw [hb] at hc; cases hc
        · rw [show m = n by omega]; exact Nat.le_refl _
      | some c =>
        rcases Nat.lt_or_ge (s.2.1 n) (s.2.1 c) with z | z
        · rw [jBs_t1 hn hb z] at h
          have e := Option.some.inj h
          subst e
          rcases Nat.lt_or_ge m n with y | y
          · have := jMem_min hb y ho; omega
          · rw [show m = n by omega]; exact Nat.le_refl _
        · rw [jBs_t2 hn hb z] at h
          have e := Option.some.inj h
          subst e
          rcases Nat.lt_or_ge m n with y | y
          · exact jMem_min hb y ho
          · rw [show m = n by omega]; exact z
/-- steps above the base, class, octaves, of a note m in the set that begins at b -/
def jSt (s : jN) (b m : Nat) : Nat := s.2.1 m - s.2.1 (jBase s b)
def jTy (s : jN) (b m : Nat) : Nat := jSt s b m % 12
theorem jSt_ok {s : jN} {b m : Nat} (h : 0 < jSnd s b) (hm : m < s.1) (ho : jOn s m b = true) : s.2.1 (jBase s b) ≤ s.2.1 m := jMem_min (jBase_in h).1 hm ho
/-- how many readings -/
def jCoF (s : jN) (r : jR) (b : Nat) (acc m : Nat) : Nat := if m = jBase s b then acc else acc * r.1 (jTy s b m)
def jCo (s : jN) (r : jR) (b : Nat) : Nat := (jMem s b).foldl (jCoF s r b) 1
theorem jCo_le {s : jN} {r : jR} {b : Nat} (hr : rOk r) : ∀ (l : List Nat) (acc : Nat), l.foldl (jCoF s r b) acc ≤ acc * 3 ^ l.length
  | [], acc => by simp
  | m :: l, acc => by
    have h1 := jCo_le (b := b) (s := s) hr l (jCoF s r b acc m)
    have h2 : jCoF s r b acc m ≤ acc * 3 := by
      unfold jCoF
      split
      · omega
      · exact Nat.mul_le_mul_left _ (hr _ (Nat.mod_lt _ (by decide))).1
    rw [List.foldl_cons, List.length_cons, Nat.pow_succ]
    have h3 := Nat.mul_le_mul_right (3 ^ l.length) h2
    rw [Nat.mul_assoc, Nat.mul_comm 3] at h3
    omega
theorem jCo_729 {s : jN} {r : jR} {b : Nat} (h6 : jSix s) (hr : rOk r) : jCo s r b ≤ 729 := by
  have h1 := jCo_le (s := s) (b := b) hr (jMem s b) 1
  rw [jMem_len] at h1
  have h2 : 3 ^ jSnd s b ≤ 3 ^ 6 := Nat.pow_le_pow_right (by decide) (h6 b)
  unfold jCo
  omega
/-- the slots of a reading: what is left of its number, and the table -/
def jOpF (s : jN) (r : jR) (b : Nat) (v : Nat × (Nat → Nat)) (m : Nat) : Nat × (Nat → Nat) :=
  if m = jBase s b ∨ r.1 (jTy s b m) < 1 then (v.1, va_up v.2 m 36) else (v.1 / r.1 (jTy s b m), va_up v.2 m (jTy s b m * 3 + v.1 % r.1 (jTy s b m)))
def jOp (s : jN) (r : jR) (b rd : Nat) : Nat × (Nat → Nat) := (jMem s b).reverse.foldl (jOpF s r b) (rd, fun _ => 36)
def jSl (s : jN) (r : jR) (b rd m : Nat) : Nat := (jOp s r b rd).2 m
def jU (r : jR) (sl : Nat) : Nat := if sl = 36 then 1 else r.2.1 sl
def jD (r : jR) (sl : Nat) : Nat := if sl = 36 then 1 else r.2.2 sl
/-- a slot that holds a ratio -/
def slOk (r : jR) (sl : Nat) : Prop := sl = 36 ∨ ∃ c i, c < 12 ∧ i < r.1 c ∧ sl = c * 3 + i
theorem slOk_lt {r : jR} {sl : Nat} (hr : rOk r) (h : slOk r sl) : sl < 37 := by
  rcases h with h | ⟨c, i, h1, h2, h3⟩
  · omega
  · have := (hr c h1).1; omega
theorem slOk_rep {I : Nat → Nat → Int32} {r : jR} {sl : Nat} (hr : rRep I r) (h : slOk r sl) : slRep I sl (jU r sl) (jD r sl) := by
  rcases h with h | ⟨c, i, h1, h2, h3⟩
  · subst h; exact hr.2.2
  · have h4 := (hr.1 c h1).1
    unfold jU jD
    rw [if_neg (by omega), if_neg (by omega), h3]
    exact (hr.2.1 c h1).2 i h2
theorem jOpF_ok {s : jN} {r : jR} {b : Nat} {v : Nat × (Nat → Nat)} {m : Nat} (h : ∀ x, slOk r (v.2 x)) : ∀ x, slOk r ((jOpF s r b v m).2 x) := by
  intro x
  unfold jOpF
  split
  · show slOk r (va_up v.2 m 36 x)
    by_cases e : x = m
    · subst e; rw [up_s]; exact Or.inl rfl
    · rw [up_n e]; exact h x
  · rename_i hc
    show slOk r (va_up v.2 m _ x)
    by_cases e : x = m
    · subst e; rw [up_s]
      exact Or.inr ⟨jTy s b x, v.1 % r.1 (jTy s b x), Nat.mod_lt _ (by decide), Nat.mod_lt _ (show 0 < r.1 (jTy s b x) by omega), rfl⟩
    · rw [up_n e]; exact h x
theorem jOp_ok {s : jN} {r : jR} {b : Nat} : ∀ (l : List Nat) (v : Nat × (Nat → Nat)), (∀ x, slOk r (v.2 x)) → ∀ x, slOk r ((l.foldl (jOpF s r b) v).2 x)
  | [], v, h => h
  | m :: l, v, h => jOp_ok l _ (jOpF_ok h)
theorem jSl_ok (s : jN) (r : jR) (b rd m : Nat) : slOk r (jSl s r b rd m) := jOp_ok _ _ (fun _ => Or.inl rfl) m
def jTg (s : jN) (r : jR) (b rd m : Nat) : Int32 := nI (120000 * (jSt s b m / 12)) + jSize (jU r (jSl s r b rd m)) (jD r (jSl s r b rd m))
def jDn (c : Nat) : Int32 := match c with
  | 0 => -1
  | c + 1 => nI c
theorem jDn_dec (c : Nat) : nI c + (-1) = jDn c := by
  cases c with
  | zero => rfl
  | succ c => exact pk_m1 c
theorem jDn_sub (c : Nat) : nI c - nI 1 = jDn c := by
  cases c with
  | zero => rfl
  | succ c => exact pk_sub (a := c + 1) (b := 1) (by omega)
/-- the open reading's slots in the class -/
def opRep (I : Nat → Nat → Int32) (s : jN) (r : jR) (b rd : Nat) : Prop := ∀ m, m ∈ jMem s b → I 40 m = nI (jSl s r b rd m)
def opKeep (I I' : Nat → Nat → Int32) : Prop := ∀ q j, q ≠ 40 → I' q j = I q j
theorem jMem_nodup (s : jN) (t : Nat) : ∀ n, (jML s t n).Nodup
  | 0 => List.nodup_nil
  | n + 1 => by
    cases h : jOn s n t with
    | false => rw [jML_f h]; exact jMem_nodup s t n
    | true =>
      rw [jML_t h, List.nodup_append]
      refine ⟨jMem_nodup s t n, by simp, fun a ha b hb => ?_⟩
      have h1 := (jML_mem.mp ha).1
      rw [List.mem_singleton] at hb
      omega
theorem jOpF_o {s : jN} {r : jR} {b : Nat} {v : Nat × (Nat → Nat)} {m x : Nat} (h : x ≠ m) : (jOpF s r b v m).2 x = v.2 x := by
  unfold jOpF
  split <;> exact up_n h
set_option maxHeartbeats 1000000 in
theorem c_floorMod {h : aH} {a b : Nat} (ha : a < 2 ^ 31) (h0 : 0 < b) (hb : b < 2 ^ 31) : aMp mJ9_floorMod_7cf53 [.int (nI a), .int (nI b)] h (.int (nI (a % b))) := by
  refine aM_of plJ9_floorMod_7cf53 (Nat.le_of_ble_eq_true rfl) ?_
  refine aX_iload_n dJ9_floorMod_7cf53_0 rfl ?_
  refine aX_iload_n dJ9_floorMod_7cf53_1 rfl ?_
  refine nRem dJ9_floorMod_7cf53_2 (by first | omega | exact Nat.lt_of_le_of_lt (Nat.mod_le _ _) (by omega)) (by first | omega | exact Nat.lt_of_le_of_lt (Nat.mod_le _ _) (by omega)) (by first | omega | exact Nat.lt_of_le_of_lt (Nat.mod_le _ _) (by omega)) ?_
  refine aX_istore_n (lv' := [(0, .int (nI (a))), (1, .int (nI (b))), (2, .int (nI (a % b)))]) dJ9_floorMod_7cf53_3 (by decide) rfl ?_
  refine aX_iload_n dJ9_floorMod_7cf53_4 rfl ?_
  refine aX_iload_n dJ9_floorMod_7cf53_5 rfl ?_
  refine aX_ixor dJ9_floorMod_7cf53_6 ?_
  refine aX_if_ge (tgt := 18) dJ9_floorMod_7cf53_7 (by decide) (fun c1 => ?_) (fun c1 => ?_)
  · refine aX_iload_n dJ9_floorMod_7cf53_18 rfl ?_
    exact rI dJ9_floorMod_7cf53_19 rfl (⟨rfl, rfl⟩)
  · exact absurd (by show (0 : Int32) ≤ nI a ^^^ nI b; rw [nx_xor]; exact nI_pos' (Nat.xor_lt_two_pow ha hb)) c1

set_option maxHeartbeats 1000000 in
theorem c_steps {I : Nat → Nat → Int32} {L : Nat → Nat → Int64} {R : Nat → Nat → Option Nat} (hR : aRf R) {s : jN} (hc : cRep I s) {k : Nat} {q : Nat × Nat} (hq : (jS s)[k]? = some q) {m : Nat} (hm : m < s.1) (hon : jOn s m q.1 = true) : aMp mX4_stepsAboveBase [.ref 39, .int (nI k), .int (nI m)] (sh0, I, L, R) (.int (nI (jSt s q.1 m))) := by
  obtain ⟨hs, ho, h6, hS, hV⟩ := id hc
  have hn := ho.1
  have hSl := jS_len s
  have hkl : k < (jS s).length := (List.getElem?_eq_some_iff.mp hq).1
  have hse := hS.2 k q hq
  have hsi := jS_in hq
  have hbs := (jBase_in hsi.2.2).2.1
  have hbk := ho.2 _ hbs
  have hsl := h6 q.1
  have hmk := ho.2 m hm
  have hst := jSt_ok hsi.2.2 hm hon
  refine aM_of plX4_stepsAboveBase (Nat.le_of_ble_eq_true rfl) ?_
  refine aX_aload_n dX4_stepsAboveBase_0 rfl ?_
  refine aX_get dX4_stepsAboveBase_1 lfX4_15 s39 (f39_0 hR) ?_
  refine aX_get dX4_stepsAboveBase_4 lfX4_63 s16 (f16_1 hR) ?_
  refine aX_iload_n dX4_stepsAboveBase_7 rfl ?_
  refine nIald (v := nI (s.2.1 m)) dX4_stepsAboveBase_8 s17 (by first | omega | exact Nat.lt_of_le_of_lt (Nat.mod_le _ _) (by omega)) (by decide) ((hs.2 m (by omega)).1) ?_
  refine aX_aload_n dX4_stepsAboveBase_9 rfl ?_
  refine aX_get dX4_stepsAboveBase_10 lfX4_15 s39 (f39_0 hR) ?_
  refine aX_get dX4_stepsAboveBase_13 lfX4_63 s16 (f16_1 hR) ?_
  refine aX_aload_n dX4_stepsAboveBase_16 rfl ?_
  refine aX_get dX4_stepsAboveBase_17 lfX4_15 s39 (f39_0 hR) ?_
  refine aX_get dX4_stepsAboveBase_20 lfX4_39 s16 (f16_8 hR) ?_
  refine aX_iload_n dX4_stepsAboveBase_23 rfl ?_
  refine nIald (v := nI (jBase s q.1)) dX4_stepsAboveBase_24 s23 (by first | omega | exact Nat.lt_of_le_of_lt (Nat.mod_le _ _) (by omega)) (by decide) (hse.2.2.1) ?_
  refine nIald (v := nI (s.2.1 (jBase s q.1))) dX4_stepsAboveBase_25 s17 (by first | omega | exact Nat.lt_of_le_of_lt (Nat.mod_le _ _) (by omega)) (by decide) ((hs.2 (jBase s q.1) (by omega)).1) ?_
  refine nSub dX4_stepsAboveBase_26 (by first | omega | exact Nat.lt_of_le_of_lt (Nat.mod_le _ _) (by omega)) ?_
  exact rI dX4_stepsAboveBase_27 rfl (⟨rfl, rfl⟩)

set_option maxHeartbeats 1000000 in
theorem c_typeOf {I : Nat → Nat → Int32} {L : Nat → Nat → Int64} {R : Nat → Nat → Option Nat} (hR : aRf R) {s : jN} (hc : cRep I s) {k : Nat} {q : Nat × Nat} (hq : (jS s)[k]? = some q) {m : Nat} (hm : m < s.1) (hon : jOn s m q.1 = true) : aMp mX4_typeOf [.ref 39, .int (nI k), .int (nI m)] (sh0, I, L, R) (.int (nI (jTy s q.1 m))) := by
  obtain ⟨hs, ho, h6, hS, hV⟩ := id hc
  have hn := ho.1
  have hSl := jS_len s
  have hkl : k < (jS s).length := (List.getElem?_eq_some_iff.mp hq).1
  have hse := hS.2 k q hq
  have hsi := jS_in hq
  have hbs := (jBase_in hsi.2.2).2.1
  have hbk := ho.2 _ hbs
  have hsl := h6 q.1
  have hmk := ho.2 m hm
  have hst := jSt_ok hsi.2.2 hm hon
  have hsb : jSt s q.1 m ≤ 127 := by unfold jSt; omega
  refine aM_of plX4_typeOf (Nat.le_of_ble_eq_true rfl) ?_
  refine aX_aload_n dX4_typeOf_0 rfl ?_
  refine aX_iload_n dX4_typeOf_1 rfl ?_
  refine aX_iload_n dX4_typeOf_2 rfl ?_
  refine cVp (As := [.int (nI (k)), .int (nI (m))]) (st := []) (v := .int (nI (jSt s q.1 m))) dX4_typeOf_3 kX4_typeOf_66 s39 aEok0 rfl rfl (Nat.le_of_ble_eq_true rfl) (c_steps hR hc hq hm hon) ?_
  refine aX_bipush (v := nI 12) dX4_typeOf_6 (by decide) ?_
  refine cSp (As := [.int (nI (jSt s q.1 m)), .int (nI (12))]) (st := []) (v := .int (nI (jSt s q.1 m % 12))) dX4_typeOf_8 kX4_typeOf_69 aEok0 rfl rfl (Nat.le_of_ble_eq_true rfl) (c_floorMod (by omega) (by omega) (by omega)) ?_
  exact rI dX4_typeOf_11 rfl (⟨rfl, rfl⟩)

set_option maxHeartbeats 1000000 in
theorem c_octaves {I : Nat → Nat → Int32} {L : Nat → Nat → Int64} {R : Nat → Nat → Option Nat} (hR : aRf R) {s : jN} (hc : cRep I s) {k : Nat} {q : Nat × Nat} (hq : (jS s)[k]? = some q) {m : Nat} (hm : m < s.1) (hon : jOn s m q.1 = true) : aMp mX4_octavesOf [.ref 39, .int (nI k), .int (nI m)] (sh0, I, L, R) (.int (nI (jSt s q.1 m / 12))) := by
  obtain ⟨hs, ho, h6, hS, hV⟩ := id hc
  have hn := ho.1
  have hSl := jS_len s
  have hkl : k < (jS s).length := (List.getElem?_eq_some_iff.mp hq).1
  have hse := hS.2 k q hq
  have hsi := jS_in hq
  have hbs := (jBase_in hsi.2.2).2.1
  have hbk := ho.2 _ hbs
  have hsl := h6 q.1
  have hmk := ho.2 m hm
  have hst := jSt_ok hsi.2.2 hm hon
  have hsb : jSt s q.1 m ≤ 127 := by unfold jSt; omega
  refine aM_of plX4_octavesOf (Nat.le_of_ble_eq_true rfl) ?_
  refine aX_aload_n dX4_octavesOf_0 rfl ?_
  refine aX_iload_n dX4_octavesOf_1 rfl ?_
  refine aX_iload_n dX4_octavesOf_2 rfl ?_
  refine cVp (As := [.int (nI (k)), .int (nI (m))]) (st := []) (v := .int (nI (jSt s q.1 m))) dX4_octavesOf_3 kX4_octavesOf_66 s39 aEok0 rfl rfl (Nat.le_of_ble_eq_true rfl) (c_steps hR hc hq hm hon) ?_
  refine aX_bipush (v := nI 12) dX4_octavesOf_6 (by decide) ?_
  refine nDiv dX4_octavesOf_8 (by first | omega | exact Nat.lt_of_le_of_lt (Nat.mod_le _ _) (by omega)) (by first | omega | exact Nat.lt_of_le_of_lt (Nat.mod_le _ _) (by omega)) (by first | omega | exact Nat.lt_of_le_of_lt (Nat.mod_le _ _) (by omega)) ?_
  exact rI dX4_octavesOf_9 rfl (⟨rfl, rfl⟩)

set_option maxHeartbeats 1000000 in
theorem l_countOf {I : Nat → Nat → Int32} {L : Nat → Nat → Int64} {R : Nat → Nat → Option Nat} (hR : aRf R) {s : jN} (hc : cRep I s) {k : Nat} {q : Nat × Nat} (hq : (jS s)[k]? = some q) {r : jR} (hr : rRep I r) : ∀ (k9 i : Nat), i ≤ jSnd s q.1 → jSnd s q.1 - i = k9 → ∀ acc, ((jMem s q.1).take i).foldl (jCoF s r q.1) 1 = acc → aX mX4_countOf aE0 (sh0, I, L, R) 4 [(0, .ref 39), (1, .int (nI k)), (2, .int (nI acc)), (3, .int (nI i))] [] 0 0 (fun ans h' => h' = (sh0, I, L, R) ∧ ans = some (.int (nI (jCo s r q.1)))) := by
  intro k9
  induction k9 using Nat.strongRecOn with
  | _ k9 ih =>
    intro i hi hk acc hf
    obtain ⟨hs, ho, h6, hS, hV⟩ := id hc
    have hn := ho.1
    have hSl := jS_len s
    have hkl : k < (jS s).length := (List.getElem?_eq_some_iff.mp hq).1
    have hse := hS.2 k q hq
    have hsi := jS_in hq
    have hbs := (jBase_in hsi.2.2).2.1
    have hbk := ho.2 _ hbs
    have hsl := h6 q.1
    refine aX_iload_n dX4_countOf_4 rfl ?_
    refine aX_aload_n dX4_countOf_5 rfl ?_
    refine aX_get dX4_countOf_6 lfX4_15 s39 (f39_0 hR) ?_
    refine aX_get dX4_countOf_9 lfX4_33 s16 (f16_9 hR) ?_
    refine aX_iload_n dX4_countOf_12 rfl ?_
    refine nIald (v := nI (jSnd s q.1)) dX4_countOf_13 s24 (by first | omega | exact Nat.lt_of_le_of_lt (Nat.mod_le _ _) (by omega)) (by decide) (hse.2.2.2.1) ?_
    refine nGe (tgt := 71) dX4_countOf_14 (by decide) (by first | omega | exact Nat.lt_of_le_of_lt (Nat.mod_le _ _) (by omega)) (by first | omega | exact Nat.lt_of_le_of_lt (Nat.mod_le _ _) (by omega)) (fun c1 => ?_) (fun c1 => ?_)
    · refine aX_iload_n dX4_countOf_71 rfl ?_
      exact rI dX4_countOf_72 rfl (⟨rfl, by rw [← hf, List.take_of_length_le (by rw [jMem_len]; omega)]; rfl⟩)
    · obtain ⟨m, hm⟩ : ∃ m, (jMem s q.1)[i]? = some m := ⟨_, List.getElem?_eq_getElem (by rw [jMem_len]; exact c1)⟩
      have hml := jMem_lt hm
      have hij := jMem_jlt h6 hm
      have ht12 : jTy s q.1 m < 12 := Nat.mod_lt _ (by decide)
      refine aX_aload_n dX4_countOf_17 rfl ?_
      refine aX_get dX4_countOf_18 lfX4_15 s39 (f39_0 hR) ?_
      refine aX_get dX4_countOf_21 lfX4_36 s16 (f16_10 hR) ?_
      refine aX_iload_n dX4_countOf_24 rfl ?_
      refine aX_bipush (v := nI 6) dX4_countOf_25 (by decide) ?_
      refine nMul dX4_countOf_27 ?_
      refine aX_iload_n dX4_countOf_28 rfl ?_
      refine nAdd dX4_countOf_29 ?_
      refine nIald (v := nI (m)) dX4_countOf_30 s25 (by first | omega | exact Nat.lt_of_le_of_lt (Nat.mod_le _ _) (by omega)) (by decide) (hse.2.2.2.2 i m hm) ?_
      refine aX_istore (lv' := [(0, .ref 39), (1, .int (nI (k))), (2, .int (nI (acc))), (3, .int (nI (i))), (4, .int (nI (m)))]) dX4_countOf_31 (by decide) rfl ?_
      refine aX_iload dX4_countOf_33 rfl ?_
      refine aX_aload_n dX4_countOf_35 rfl ?_
      refine aX_get dX4_countOf_36 lfX4_15 s39 (f39_0 hR) ?_
      refine aX_get dX4_countOf_39 lfX4_39 s16 (f16_8 hR) ?_
      refine aX_iload_n dX4_countOf_42 rfl ?_
      refine nIald (v := nI (jBase s q.1)) dX4_countOf_43 s23 (by first | omega | exact Nat.lt_of_le_of_lt (Nat.mod_le _ _) (by omega)) (by decide) (hse.2.2.1) ?_
      refine nEq (tgt := 65) dX4_countOf_44 (by decide) (by first | omega | exact Nat.lt_of_le_of_lt (Nat.mod_le _ _) (by omega)) (by first | omega | exact Nat.lt_of_le_of_lt (Nat.mod_le _ _) (by omega)) (fun c2 => ?_) (fun c2 => ?_)
      · refine nInc (lv' := [(0, .ref 39), (1, .int (nI (k))), (2, .int (nI (acc))), (3, .int (nI (i + 1))), (4, .int (nI (m)))]) dX4_countOf_65 rfl rfl (by decide) rfl ?_
        refine aX_goto (tgt := 4) dX4_countOf_68 (by decide) ?_
        refine aX_lv (lv' := [(0, .ref 39), (1, .int (nI k)), (2, .int (nI (acc))), (3, .int (nI (i + 1)))]) [0, 1, 2, 3] rfl ?_
        exact ih (jSnd s q.1 - (i + 1)) (by omega) (i + 1) (by omega) rfl _ (by rw [List.take_succ, hm, List.foldl_append, hf]; show jCoF s r q.1 acc m = _; unfold jCoF; rw [if_pos (by assumption)])
      · refine aX_iload_n dX4_countOf_47 rfl ?_
        refine aX_aload_n dX4_countOf_48 rfl ?_
        refine aX_get dX4_countOf_49 lfX4_19 s39 (f39_1 hR) ?_
        refine aX_get dX4_countOf_52 lfX4_42 s10 (f10_4 hR) ?_
        refine aX_aload_n dX4_countOf_55 rfl ?_
        refine aX_iload_n dX4_countOf_56 rfl ?_
        refine aX_iload dX4_countOf_57 rfl ?_
        refine cVp (As := [.int (nI (k)), .int (nI (m))]) (st := [.ref 15, .int (nI (acc))]) (v := .int (nI (jTy s q.1 m))) dX4_countOf_59 kX4_countOf_47 s39 aEok0 rfl rfl (Nat.le_of_ble_eq_true rfl) (c_typeOf hR hc hq hml.1 hml.2) ?_
        refine nIald (v := nI (r.1 (jTy s q.1 m))) dX4_countOf_62 s15 (by first | omega | exact Nat.lt_of_le_of_lt (Nat.mod_le _ _) (by omega)) (by decide) ((hr.2.1 _ (Nat.mod_lt _ (by decide))).1) ?_
        refine nMul dX4_countOf_63 ?_
        refine aX_istore_n (lv' := [(0, .ref 39), (1, .int (nI (k))), (2, .int (nI (acc * (r.1 (jTy s q.1 m))))), (3, .int (nI (i))), (4, .int (nI (m)))]) dX4_countOf_64 (by decide) rfl ?_
        refine nInc (lv' := [(0, .ref 39), (1, .int (nI (k))), (2, .int (nI (acc * (r.1 (jTy s q.1 m))))), (3, .int (nI (i + 1))), (4, .int (nI (m)))]) dX4_countOf_65 rfl rfl (by decide) rfl ?_
        refine aX_goto (tgt := 4) dX4_countOf_68 (by decide) ?_
        refine aX_lv (lv' := [(0, .ref 39), (1, .int (nI k)), (2, .int (nI (acc * (r.1 (jTy s q.1 m))))), (3, .int (nI (i + 1)))]) [0, 1, 2, 3] rfl ?_
        exact ih (jSnd s q.1 - (i + 1)) (by omega) (i + 1) (by omega) rfl _ (by rw [List.take_succ, hm, List.foldl_append, hf]; show jCoF s r q.1 acc m = _; unfold jCoF; rw [if_neg (by assumption)])

set_option maxHeartbeats 1000000 in
theorem c_countOf {I : Nat → Nat → Int32} {L : Nat → Nat → Int64} {R : Nat → Nat → Option Nat} (hR : aRf R) {s : jN} (hc : cRep I s) {k : Nat} {q : Nat × Nat} (hq : (jS s)[k]? = some q) {r : jR} (hr : rRep I r) : aMp mX4_countOf [.ref 39, .int (nI k)] (sh0, I, L, R) (.int (nI (jCo s r q.1))) := by
  refine aM_of plX4_countOf (Nat.le_of_ble_eq_true rfl) ?_
  refine aX_iconst (v := nI 1) dX4_countOf_0 (by decide) ?_
  refine aX_istore_n (lv' := [(0, .ref 39), (1, .int (nI (k))), (2, .int (nI (1)))]) dX4_countOf_1 (by decide) rfl ?_
  refine aX_iconst (v := nI 0) dX4_countOf_2 (by decide) ?_
  refine aX_istore_n (lv' := [(0, .ref 39), (1, .int (nI (k))), (2, .int (nI (1))), (3, .int (nI (0)))]) dX4_countOf_3 (by decide) rfl ?_
  exact l_countOf hR hc hq hr _ 0 (by omega) rfl 1 rfl

/-- while a reading is opened: the last members, from c on, are done -/
def opIn (I I' : Nat → Nat → Int32) (s : jN) (r : jR) (b rd c : Nat) (rest : Nat) (T : Nat → Nat) : Prop :=
  ((jMem s b).drop c).reverse.foldl (jOpF s r b) (rd, fun _ => 36) = (rest, T) ∧ (∀ m, m ∈ (jMem s b).drop c → I' 40 m = nI (T m)) ∧ opKeep I I'
theorem opIn_0 {I : Nat → Nat → Int32} {s : jN} {r : jR} {b rd : Nat} : opIn I I s r b rd (jSnd s b) rd (fun _ => 36) := by
  have e : (jMem s b).drop (jSnd s b) = [] := List.drop_of_length_le (by rw [jMem_len]; exact Nat.le_refl _)
  refine ⟨by rw [e]; rfl, fun m hm => ?_, fun _ _ _ => rfl⟩
  rw [e] at hm
  cases hm
theorem opIn_step {I I1 : Nat → Nat → Int32} {s : jN} {r : jR} {b rd c rest m rest' sl : Nat} {T : Nat → Nat} (hm : (jMem s b)[c]? = some m) (h : opIn I I1 s r b rd (c + 1) rest T) (he : jOpF s r b (rest, T) m = (rest', va_up T m sl)) : opIn I (aU I1 40 m (nI sl)) s r b rd c rest' (va_up T m sl) := by
  obtain ⟨h1, h2, h3⟩ := h
  have hd : (jMem s b).drop c = m :: (jMem s b).drop (c + 1) := by
    have hl := (List.getElem?_eq_some_iff.mp hm)
    rw [List.drop_eq_getElem_cons hl.1, hl.2]
  have hnd : (m :: (jMem s b).drop (c + 1)).Nodup := by rw [← hd]; exact (jMem_nodup s b s.1).sublist (List.drop_sublist _ _)
  refine ⟨?_, fun x hx => ?_, fun q j hq => by rw [aU_n (by omega)]; exact h3 q j hq⟩
  · rw [hd, List.reverse_cons, List.foldl_append, h1]; exact he
  · rw [hd] at hx
    by_cases e : x = m
    · subst e; rw [aU_s, up_s]
    · rw [aU_n (by omega), up_n e]
      exact h2 x (by rcases List.mem_cons.mp hx with z | z; exact absurd z e; exact z)
theorem cRep_op {I I' : Nat → Nat → Int32} {s : jN} (h : opKeep I I') (hs : cRep I s) : cRep I' s := by
  obtain ⟨a, b, c, d, e⟩ := hs
  refine ⟨⟨by rw [h 16 0 (by omega)]; exact a.1, fun i hi => by rw [h 17 i (by omega), h 18 i (by omega), h 19 i (by omega), h 20 i (by omega)]; exact a.2 i hi⟩, b, c, ⟨by rw [h 16 5 (by omega)]; exact d.1, fun k q hq => ?_⟩, by rw [h 16 11 (by omega)]; exact e.1, fun k q m h1 h2 => by rw [h 26 _ (by omega)]; exact e.2 k q m h1 h2⟩
  obtain ⟨d1, d2, d3, d4, d5⟩ := d.2 k q hq
  exact ⟨by rw [h 21 k (by omega)]; exact d1, by rw [h 22 k (by omega)]; exact d2, by rw [h 23 k (by omega)]; exact d3, by rw [h 24 k (by omega)]; exact d4, fun j m hj => by rw [h 25 _ (by omega)]; exact d5 j m hj⟩
theorem rRep_op {I I' : Nat → Nat → Int32} {r : jR} (h : opKeep I I') (hr : rRep I r) : rRep I' r := by
  have keep : ∀ sl a b, slRep I sl a b → slRep I' sl a b := fun sl a b z => ⟨by rw [h 11 _ (by omega)]; exact z.1, by rw [h 12 _ (by omega)]; exact z.2.1, by rw [h 13 _ (by omega)]; exact z.2.2.1, fun p hp => by rw [h 14 _ (by omega)]; exact z.2.2.2 p hp⟩
  exact ⟨hr.1, fun c hc => ⟨by rw [h 15 c (by omega)]; exact (hr.2.1 c hc).1, fun i hi => keep _ _ _ ((hr.2.1 c hc).2 i hi)⟩, keep _ _ _ hr.2.2⟩
set_option maxHeartbeats 1000000 in
theorem l_open {I : Nat → Nat → Int32} {L : Nat → Nat → Int64} {R : Nat → Nat → Option Nat} (hR : aRf R) {s : jN} (hc : cRep I s) {k : Nat} {q : Nat × Nat} (hq : (jS s)[k]? = some q) {r : jR} (hr : rRep I r) {rd : Nat} (hrd : rd < 2 ^ 31) : ∀ (k9 c : Nat), c ≤ jSnd s q.1 → c = k9 → ∀ (rest : Nat) (T : Nat → Nat) (I1 : Nat → Nat → Int32), opIn I I1 s r q.1 rd c rest T → rest < 2 ^ 31 → aX mX4_open aE0 (sh0, I1, L, R) 15 [(0, .ref 39), (1, .int (nI k)), (2, .int (nI rd)), (3, .int (nI rest)), (4, .int (jDn c))] [] 0 0 (fun ans h' => ans = none ∧ ∃ I', h' = (sh0, I', L, R) ∧ opRep I' s r q.1 rd ∧ opKeep I I') := by
  intro k9
  induction k9 using Nat.strongRecOn with
  | _ k9 ih =>
    intro c hcs hk rest T I1 hin hrest
    have hc1 := cRep_op hin.2.2 hc
    have hr1 := rRep_op hin.2.2 hr
    obtain ⟨hs, ho, h6, hS, hV⟩ := id hc1
    have hn := ho.1
    have hSl := jS_len s
    have hkl : k < (jS s).length := (List.getElem?_eq_some_iff.mp hq).1
    have hse := hS.2 k q hq
    have hsi := jS_in hq
    have hbs := (jBase_in hsi.2.2).2.1
    have hbk := ho.2 _ hbs
    have hsl := h6 q.1
    cases c with
    | zero =>
      refine aX_iload dX4_open_15 rfl ?_
      refine aX_if_lt (tgt := 117) dX4_open_17 (by decide) (fun c1 => ?_) (fun c1 => ?_)
      · exact rV dX4_open_117 rfl (⟨rfl, I1, rfl, fun m hm => by unfold jSl jOp; have z := hin.1; rw [List.drop_zero] at z; rw [z]; exact hin.2.1 m (by rw [List.drop_zero]; exact hm), hin.2.2⟩)
      · exact absurd (by decide) c1
    | succ c =>
      obtain ⟨m, hm⟩ : ∃ m, (jMem s q.1)[c]? = some m := ⟨_, List.getElem?_eq_getElem (by rw [jMem_len]; omega)⟩
      have hml := jMem_lt hm
      have hij := jMem_jlt h6 hm
      have ht12 : jTy s q.1 m < 12 := Nat.mod_lt _ (by decide)
      have hc3 := (hr1.1 _ ht12).1
      refine aX_iload dX4_open_15 rfl ?_
      refine aX_if_lt (tgt := 117) dX4_open_17 (by decide) (fun c2 => ?_) (fun c2 => ?_)
      · exact absurd c2 (nI_pos (by omega))
      · refine aX_aload_n dX4_open_20 rfl ?_
        refine aX_get dX4_open_21 lfX4_15 s39 (f39_0 hR) ?_
        refine aX_get dX4_open_24 lfX4_36 s16 (f16_10 hR) ?_
        refine aX_iload_n dX4_open_27 rfl ?_
        refine aX_bipush (v := nI 6) dX4_open_28 (by decide) ?_
        refine nMul dX4_open_30 ?_
        refine aX_iload dX4_open_31 rfl ?_
        refine nAdd dX4_open_33 ?_
        refine nIald (v := nI (m)) dX4_open_34 s25 (by first | omega | exact Nat.lt_of_le_of_lt (Nat.mod_le _ _) (by omega)) (by decide) (hse.2.2.2.2 c m hm) ?_
        refine aX_istore (lv' := [(0, .ref 39), (1, .int (nI (k))), (2, .int (nI (rd))), (3, .int (nI (rest))), (4, .int (nI (c))), (5, .int (nI (m)))]) dX4_open_35 (by decide) rfl ?_
        refine aX_aload_n dX4_open_37 rfl ?_
        refine aX_iload_n dX4_open_38 rfl ?_
        refine aX_iload dX4_open_39 rfl ?_
        refine cVp (As := [.int (nI (k)), .int (nI (m))]) (st := []) (v := .int (nI (jTy s q.1 m))) dX4_open_41 kX4_open_47 s39 aEok0 rfl rfl (Nat.le_of_ble_eq_true rfl) (c_typeOf hR hc1 hq hml.1 hml.2) ?_
        refine aX_istore (lv' := [(0, .ref 39), (1, .int (nI (k))), (2, .int (nI (rd))), (3, .int (nI (rest))), (4, .int (nI (c))), (5, .int (nI (m))), (6, .int (nI (jTy s q.1 m)))]) dX4_open_44 (by decide) rfl ?_
        refine aX_aload_n dX4_open_46 rfl ?_
        refine aX_get dX4_open_47 lfX4_19 s39 (f39_1 hR) ?_
        refine aX_get dX4_open_50 lfX4_42 s10 (f10_4 hR) ?_
        refine aX_iload dX4_open_53 rfl ?_
        refine nIald (v := nI (r.1 (jTy s q.1 m))) dX4_open_55 s15 (by first | omega | exact Nat.lt_of_le_of_lt (Nat.mod_le _ _) (by omega)) (by decide) ((hr1.2.1 _ (Nat.mod_lt _ (by decide))).1) ?_
        refine aX_istore (lv' := [(0, .ref 39), (1, .int (nI (k))), (2, .int (nI (rd))), (3, .int (nI (rest))), (4, .int (nI (c))), (5, .int (nI (m))), (6, .int (nI (jTy s q.1 m))), (7, .int (nI (r.1 (jTy s q.1 m))))]) dX4_open_56 (by decide) rfl ?_
        refine aX_iload dX4_open_58 rfl ?_
        refine aX_aload_n dX4_open_60 rfl ?_
        refine aX_get dX4_open_61 lfX4_15 s39 (f39_0 hR) ?_
        refine aX_get dX4_open_64 lfX4_39 s16 (f16_8 hR) ?_
        refine aX_iload_n dX4_open_67 rfl ?_
        refine nIald (v := nI (jBase s q.1)) dX4_open_68 s23 (by first | omega | exact Nat.lt_of_le_of_lt (Nat.mod_le _ _) (by omega)) (by decide) (hse.2.2.1) ?_
        refine nEq (tgt := 78) dX4_open_69 (by decide) (by first | omega | exact Nat.lt_of_le_of_lt (Nat.mod_le _ _) (by omega)) (by first | omega | exact Nat.lt_of_le_of_lt (Nat.mod_le _ _) (by omega)) (fun c3 => ?_) (fun c3 => ?_)
        · refine aX_aload_n dX4_open_78 rfl ?_
          refine aX_get dX4_open_79 lfX4_9 s39 (f39_2 hR) ?_
          refine aX_iload dX4_open_82 rfl ?_
          refine aX_bipush (v := nI 36) dX4_open_84 (by decide) ?_
          refine nIast dX4_open_86 s40 (by first | omega | exact Nat.lt_of_le_of_lt (Nat.mod_le _ _) (by omega)) (by decide) ?_
          refine aX_goto (tgt := 111) dX4_open_87 (by decide) ?_
          refine aX_iinc (v := (nI (c)) + (-1)) (lv' := [(0, .ref 39), (1, .int (nI (k))), (2, .int (nI (rd))), (3, .int (nI (rest))), (4, .int ((nI (c)) + (-1))), (5, .int (nI (m))), (6, .int (nI (jTy s q.1 m))), (7, .int (nI (r.1 (jTy s q.1 m))))]) dX4_open_111 rfl rfl (by decide) rfl ?_
          refine aX_goto (tgt := 15) dX4_open_114 (by decide) ?_
          refine aX_lv (lv' := [(0, .ref 39), (1, .int (nI k)), (2, .int (nI rd)), (3, .int (nI (rest))), (4, .int (jDn c))]) [0, 1, 2, 3, 4] (by rw [← jDn_dec]; rfl) ?_
          exact ih c (by omega) c (by omega) rfl rest _ _ (opIn_step hm hin (by unfold jOpF; rw [if_pos (by first | exact Or.inl (by assumption) | exact Or.inr (by omega))])) (by omega)
        · refine aX_iload dX4_open_72 rfl ?_
          refine aX_iconst (v := nI 1) dX4_open_74 (by decide) ?_
          refine nGe (tgt := 90) dX4_open_75 (by decide) (by first | omega | exact Nat.lt_of_le_of_lt (Nat.mod_le _ _) (by omega)) (by first | omega | exact Nat.lt_of_le_of_lt (Nat.mod_le _ _) (by omega)) (fun c4 => ?_) (fun c4 => ?_)
          · refine aX_aload_n dX4_open_90 rfl ?_
            refine aX_get dX4_open_91 lfX4_9 s39 (f39_2 hR) ?_
            refine aX_iload dX4_open_94 rfl ?_
            refine aX_iload dX4_open_96 rfl ?_
            refine aX_iconst (v := nI 3) dX4_open_98 (by decide) ?_
            refine nMul dX4_open_99 ?_
            refine aX_iload_n dX4_open_100 rfl ?_
            refine aX_iload dX4_open_101 rfl ?_
            refine nRem dX4_open_103 (by first | omega | exact Nat.lt_of_le_of_lt (Nat.mod_le _ _) (by omega)) (by first | omega | exact Nat.lt_of_le_of_lt (Nat.mod_le _ _) (by omega)) (by first | omega | exact Nat.lt_of_le_of_lt (Nat.mod_le _ _) (by omega)) ?_
            refine nAdd dX4_open_104 ?_
            refine nIast dX4_open_105 s40 (by first | omega | exact Nat.lt_of_le_of_lt (Nat.mod_le _ _) (by omega)) (by decide) ?_
            refine aX_iload_n dX4_open_106 rfl ?_
            refine aX_iload dX4_open_107 rfl ?_
            refine nDiv dX4_open_109 (by first | omega | exact Nat.lt_of_le_of_lt (Nat.mod_le _ _) (by omega)) (by first | omega | exact Nat.lt_of_le_of_lt (Nat.mod_le _ _) (by omega)) (by first | omega | exact Nat.lt_of_le_of_lt (Nat.mod_le _ _) (by omega)) ?_
            refine aX_istore_n (lv' := [(0, .ref 39), (1, .int (nI (k))), (2, .int (nI (rd))), (3, .int (nI (rest / (r.1 (jTy s q.1 m))))), (4, .int (nI (c))), (5, .int (nI (m))), (6, .int (nI (jTy s q.1 m))), (7, .int (nI (r.1 (jTy s q.1 m))))]) dX4_open_110 (by decide) rfl ?_
            refine aX_iinc (v := (nI (c)) + (-1)) (lv' := [(0, .ref 39), (1, .int (nI (k))), (2, .int (nI (rd))), (3, .int (nI (rest / (r.1 (jTy s q.1 m))))), (4, .int ((nI (c)) + (-1))), (5, .int (nI (m))), (6, .int (nI (jTy s q.1 m))), (7, .int (nI (r.1 (jTy s q.1 m))))]) dX4_open_111 rfl rfl (by decide) rfl ?_
            refine aX_goto (tgt := 15) dX4_open_114 (by decide) ?_
            refine aX_lv (lv' := [(0, .ref 39), (1, .int (nI k)), (2, .int (nI rd)), (3, .int (nI (rest / (r.1 (jTy s q.1 m))))), (4, .int (jDn c))]) [0, 1, 2, 3, 4] (by rw [← jDn_dec]; rfl) ?_
            exact ih c (by omega) c (by omega) rfl _ _ _ (opIn_step hm hin (by unfold jOpF; rw [if_neg (by omega)])) (Nat.lt_of_le_of_lt (Nat.div_le_self _ _) (by omega))
          · refine aX_aload_n dX4_open_78 rfl ?_
            refine aX_get dX4_open_79 lfX4_9 s39 (f39_2 hR) ?_
            refine aX_iload dX4_open_82 rfl ?_
            refine aX_bipush (v := nI 36) dX4_open_84 (by decide) ?_
            refine nIast dX4_open_86 s40 (by first | omega | exact Nat.lt_of_le_of_lt (Nat.mod_le _ _) (by omega)) (by decide) ?_
            refine aX_goto (tgt := 111) dX4_open_87 (by decide) ?_
            refine aX_iinc (v := (nI (c)) + (-1)) (lv' := [(0, .ref 39), (1, .int (nI (k))), (2, .int (nI (rd))), (3, .int (nI (rest))), (4, .int ((nI (c)) + (-1))), (5, .int (nI (m))), (6, .int (nI (jTy s q.1 m))), (7, .int (nI (r.1 (jTy s q.1 m))))]) dX4_open_111 rfl rfl (by decide) rfl ?_
            refine aX_goto (tgt := 15) dX4_open_114 (by decide) ?_
            refine aX_lv (lv' := [(0, .ref 39), (1, .int (nI k)), (2, .int (nI rd)), (3, .int (nI (rest))), (4, .int (jDn c))]) [0, 1, 2, 3, 4] (by rw [← jDn_dec]; rfl) ?_
            exact ih c (by omega) c (by omega) rfl rest _ _ (opIn_step hm hin (by unfold jOpF; rw [if_pos (by first | exact Or.inl (by assumption) | exact Or.inr (by omega))])) (by omega)

set_option maxHeartbeats 1000000 in
theorem c_open {I : Nat → Nat → Int32} {L : Nat → Nat → Int64} {R : Nat → Nat → Option Nat} (hR : aRf R) {s : jN} (hc : cRep I s) {k : Nat} {q : Nat × Nat} (hq : (jS s)[k]? = some q) {r : jR} (hr : rRep I r) {rd : Nat} (hrd : rd < 2 ^ 31) : aM mX4_open [.ref 39, .int (nI k), .int (nI rd)] (sh0, I, L, R) (fun ans h' => ans = none ∧ ∃ I', h' = (sh0, I', L, R) ∧ opRep I' s r q.1 rd ∧ opKeep I I') := by
  obtain ⟨hs, ho, h6, hS, hV⟩ := id hc
  have hn := ho.1
  have hSl := jS_len s
  have hkl : k < (jS s).length := (List.getElem?_eq_some_iff.mp hq).1
  have hse := hS.2 k q hq
  have hsi := jS_in hq
  have hbs := (jBase_in hsi.2.2).2.1
  have hbk := ho.2 _ hbs
  have hsl := h6 q.1
  refine aM_of plX4_open (Nat.le_of_ble_eq_true rfl) ?_
  refine aX_iload_n dX4_open_0 rfl ?_
  refine aX_istore_n (lv' := [(0, .ref 39), (1, .int (nI (k))), (2, .int (nI (rd))), (3, .int (nI (rd)))]) dX4_open_1 (by decide) rfl ?_
  refine aX_aload_n dX4_open_2 rfl ?_
  refine aX_get dX4_open_3 lfX4_15 s39 (f39_0 hR) ?_
  refine aX_get dX4_open_6 lfX4_33 s16 (f16_9 hR) ?_
  refine aX_iload_n dX4_open_9 rfl ?_
  refine nIald (v := nI (jSnd s q.1)) dX4_open_10 s24 (by first | omega | exact Nat.lt_of_le_of_lt (Nat.mod_le _ _) (by omega)) (by decide) (hse.2.2.2.1) ?_
  refine aX_iconst (v := nI 1) dX4_open_11 (by decide) ?_
  refine aX_isub dX4_open_12 ?_
  rw [jDn_sub]
  refine aX_istore (lv' := [(0, .ref 39), (1, .int (nI (k))), (2, .int (nI (rd))), (3, .int (nI (rd))), (4, .int (jDn (jSnd s q.1)))]) dX4_open_13 (by decide) rfl ?_
  exact l_open hR hc hq hr hrd _ (jSnd s q.1) (Nat.le_refl _) rfl rd (fun _ => 36) I opIn_0 hrd

set_option maxHeartbeats 1000000 in
theorem c_targetOf {I : Nat → Nat → Int32} {L : Nat → Nat → Int64} {R : Nat → Nat → Option Nat} (hR : aRf R) {s : jN} (hc : cRep I s) {k : Nat} {q : Nat × Nat} (hq : (jS s)[k]? = some q) {m : Nat} (hm : m < s.1) (hon : jOn s m q.1 = true) {r : jR} (hr : rRep I r) {rd : Nat} (hop : opRep I s r q.1 rd) : aMp mX4_targetOf [.ref 39, .int (nI k), .int (nI m)] (sh0, I, L, R) (.int (jTg s r q.1 rd m)) := by
  obtain ⟨hs, ho, h6, hS, hV⟩ := id hc
  have hn := ho.1
  have hSl := jS_len s
  have hkl : k < (jS s).length := (List.getElem?_eq_some_iff.mp hq).1
  have hse := hS.2 k q hq
  have hsi := jS_in hq
  have hbs := (jBase_in hsi.2.2).2.1
  have hbk := ho.2 _ hbs
  have hsl := h6 q.1
  have hmem : m ∈ jMem s q.1 := jML_mem.mpr ⟨hm, hon⟩
  have hsok := jSl_ok s r q.1 rd m
  have hslt := slOk_lt hr.1 hsok
  have hslr := slOk_rep hr hsok
  refine aM_of plX4_targetOf (Nat.le_of_ble_eq_true rfl) ?_
  refine aX_ldc (v := nI 120000) dX4_targetOf_0 lkX4_72 ?_
  refine aX_aload_n dX4_targetOf_2 rfl ?_
  refine aX_iload_n dX4_targetOf_3 rfl ?_
  refine aX_iload_n dX4_targetOf_4 rfl ?_
  refine cVp (As := [.int (nI (k)), .int (nI (m))]) (st := [.int (nI (120000))]) (v := .int (nI (jSt s q.1 m / 12))) dX4_targetOf_5 kX4_targetOf_73 s39 aEok0 rfl rfl (Nat.le_of_ble_eq_true rfl) (c_octaves hR hc hq hm hon) ?_
  refine nMul dX4_targetOf_8 ?_
  refine aX_aload_n dX4_targetOf_9 rfl ?_
  refine aX_get dX4_targetOf_10 lfX4_19 s39 (f39_1 hR) ?_
  refine aX_get dX4_targetOf_13 lfX4_76 s10 (f10_2 hR) ?_
  refine aX_aload_n dX4_targetOf_16 rfl ?_
  refine aX_get dX4_targetOf_17 lfX4_9 s39 (f39_2 hR) ?_
  refine aX_iload_n dX4_targetOf_20 rfl ?_
  refine nIald (v := nI (jSl s r q.1 rd m)) dX4_targetOf_21 s40 (by first | omega | exact Nat.lt_of_le_of_lt (Nat.mod_le _ _) (by omega)) (by decide) (hop m hmem) ?_
  refine nIald (v := jSize (jU r (jSl s r q.1 rd m)) (jD r (jSl s r q.1 rd m))) dX4_targetOf_22 s13 (by first | omega | exact Nat.lt_of_le_of_lt (Nat.mod_le _ _) (by omega)) (by decide) (hslr.2.2.1) ?_
  refine aX_iadd dX4_targetOf_23 ?_
  exact rI dX4_targetOf_24 rfl (⟨rfl, rfl⟩)

def jDv (s : jN) (r : jR) (b rd m : Nat) : Int32 := jTg s r b rd m - nI (10000 * jSt s b m)
set_option maxHeartbeats 1000000 in
theorem c_deviationOf {I : Nat → Nat → Int32} {L : Nat → Nat → Int64} {R : Nat → Nat → Option Nat} (hR : aRf R) {s : jN} (hc : cRep I s) {k : Nat} {q : Nat × Nat} (hq : (jS s)[k]? = some q) {m : Nat} (hm : m < s.1) (hon : jOn s m q.1 = true) {r : jR} (hr : rRep I r) {rd : Nat} (hop : opRep I s r q.1 rd) : aMp mX4_deviationOf [.ref 39, .int (nI k), .int (nI m)] (sh0, I, L, R) (.int (jDv s r q.1 rd m)) := by
  obtain ⟨hs, ho, h6, hS, hV⟩ := id hc
  have hn := ho.1
  have hSl := jS_len s
  have hkl : k < (jS s).length := (List.getElem?_eq_some_iff.mp hq).1
  have hse := hS.2 k q hq
  have hsi := jS_in hq
  have hbs := (jBase_in hsi.2.2).2.1
  have hbk := ho.2 _ hbs
  have hsl := h6 q.1
  refine aM_of plX4_deviationOf (Nat.le_of_ble_eq_true rfl) ?_
  refine aX_aload_n dX4_deviationOf_0 rfl ?_
  refine aX_iload_n dX4_deviationOf_1 rfl ?_
  refine aX_iload_n dX4_deviationOf_2 rfl ?_
  refine cVp (As := [.int (nI (k)), .int (nI (m))]) (st := []) (v := .int (jTg s r q.1 rd m)) dX4_deviationOf_3 kX4_deviationOf_77 s39 aEok0 rfl rfl (Nat.le_of_ble_eq_true rfl) (c_targetOf hR hc hq hm hon hr hop) ?_
  refine aX_sipush (v := nI 10000) dX4_deviationOf_6 (by decide) ?_
  refine aX_aload_n dX4_deviationOf_9 rfl ?_
  refine aX_iload_n dX4_deviationOf_10 rfl ?_
  refine aX_iload_n dX4_deviationOf_11 rfl ?_
  refine cVp (As := [.int (nI (k)), .int (nI (m))]) (st := [.int (nI (10000)), .int (jTg s r q.1 rd m)]) (v := .int (nI (jSt s q.1 m))) dX4_deviationOf_12 kX4_deviationOf_66 s39 aEok0 rfl rfl (Nat.le_of_ble_eq_true rfl) (c_steps hR hc hq hm hon) ?_
  refine nMul dX4_deviationOf_15 ?_
  refine aX_isub dX4_deviationOf_16 ?_
  exact rI dX4_deviationOf_17 rfl (⟨rfl, rfl⟩)

