/-! THE REFERENCE: its notes and sets -/
theorem nShr {md : aMd} {E : aE} {h : aH} {pc : Nat} {lv : List (Nat × Value)} {st : List Value} {bc bs : Nat} {Q : Option Value → aH → Prop} {a i : Nat} (hd : decode md.2.1 pc = .ok (.ishr, 1)) (ha : a < 2 ^ 31) (hi : i < 32) (k : aX md E h (pc + 1) lv (.int (nI (a / 2 ^ i)) :: st) bc bs Q) : aX md E h pc lv (.int (nI i) :: .int (nI a) :: st) bc bs Q := by
  refine aX_ishr hd ?_
  rw [nZ a, iZ_shr (by omega) (by omega) hi]
  have e : ((a : Nat) : Int) / 2 ^ i = ((a / 2 ^ i : Nat) : Int) := by rw [Int.natCast_ediv, Int.natCast_pow]; rfl
  rw [e, ← nZ]; exact k
theorem nShl1 : ∀ i, i < 16 → nI 1 <<< (nI i &&& 31) = nI (2 ^ i)
  | 0, _ => by decide
  | 1, _ => by decide
  | 2, _ => by decide
  | 3, _ => by decide
  | 4, _ => by decide
  | 5, _ => by decide
  | 6, _ => by decide
  | 7, _ => by decide
  | 8, _ => by decide
  | 9, _ => by decide
  | 10, _ => by decide
  | 11, _ => by decide
  | 12, _ => by decide
  | 13, _ => by decide
  | 14, _ => by decide
  | 15, _ => by decide
  | n + 16, h => absurd h (by omega)
/-- the bits of the notes that sound -/
def jBt (s : jN) (t : Nat) : Nat → Nat
  | 0 => 0
  | n + 1 => if jOn s n t then jBt s t n + 2 ^ n else jBt s t n
theorem jBt_lt (s : jN) (t : Nat) : ∀ n, jBt s t n < 2 ^ n
  | 0 => Nat.one_pos
  | n + 1 => by
    have := jBt_lt s t n
    show (if jOn s n t then _ else _) < _
    rw [Nat.pow_succ]
    split <;> omega
theorem jBt_at {s : jN} {t : Nat} : ∀ n i, i < n → (jBt s t n / 2 ^ i % 2 = 1 ↔ jOn s i t = true)
  | 0, i, h => absurd h (by omega)
  | n + 1, i, h => by
    have hl := jBt_lt s t n
    show ((if jOn s n t then jBt s t n + 2 ^ n else jBt s t n) / 2 ^ i % 2 = 1 ↔ _)
    by_cases e : i = n
    · subst e
      by_cases g : jOn s i t = true
      · rw [if_pos g, Nat.add_div_right _ (Nat.two_pow_pos i), Nat.div_eq_of_lt hl]; simp [g]
      · rw [if_neg g, Nat.div_eq_of_lt hl]; simp [g]
    · have ih := jBt_at (s := s) (t := t) n i (by omega)
      split
      · obtain ⟨d, hd⟩ : ∃ d, n = i + (d + 1) := ⟨n - i - 1, by omega⟩
        have e2 : 2 ^ n = 2 ^ i * (2 ^ d * 2) := by rw [hd, Nat.pow_add, Nat.pow_succ]
        rw [e2, Nat.add_mul_div_left _ _ (Nat.two_pow_pos i), Nat.add_mul_mod_self_right]
        exact ih
      · exact ih
theorem jBt_0 {s : jN} {t : Nat} : ∀ n, (jBt s t n = 0 ↔ jCnt (fun i => jOn s i t) n = 0)
  | 0 => by simp [jBt, jCnt]
  | n + 1 => by
    have ih := jBt_0 (s := s) (t := t) n
    have hp := Nat.two_pow_pos n
    show ((if jOn s n t then jBt s t n + 2 ^ n else jBt s t n) = 0 ↔ (if jOn s n t then jCnt _ n + 1 else jCnt _ n) = 0)
    by_cases g : jOn s n t = true
    · rw [if_pos g, if_pos g]; omega
    · rw [if_neg g, if_neg g]; exact ih
theorem or_bit {a i : Nat} (h : a < 2 ^ i) : a ||| 2 ^ i = a + 2 ^ i := by
  have := Nat.two_pow_add_eq_or_of_lt h 1
  rw [Nat.mul_one, Nat.or_comm] at this
  omega
def mnRep (I : Nat → Nat → Int32) (s : jN) : Prop := I 159 0 = nI s.1 ∧ ∀ i, i < s.1 → I 160 i = nI (s.2.1 i) ∧ I 161 i = nI (s.2.2.1 i) ∧ I 162 i = nI (s.2.2.2.1 i) ∧ I 163 i = bI (s.2.2.2.2 i)
def mqRep (I : Nat → Nat → Int32) (s : jN) (k : Nat) (q : Nat × Nat) : Prop := I 171 k = nI q.1 ∧ I 172 k = nI q.2 ∧ I 173 k = nI (jBt s q.1 s.1) ∧ I 174 k = nI (jBase s q.1) ∧ I 175 k = nI (jSnd s q.1)
def msRep (I : Nat → Nat → Int32) (s : jN) (S : List (Nat × Nat)) : Prop := I 159 14 = nI S.length ∧ ∀ k q, S[k]? = some q → mqRep I s k q
def mlRep (I : Nat → Nat → Int32) (r : jR) : Prop := rOk r ∧ (∀ c, c < 12 → I 164 c = nI (r.1 c)) ∧ (∀ c i j, c < 12 → i < r.1 c → j = c * 3 + i → I 165 j = nI (r.2.1 (c * 3 + i)) ∧ I 166 j = nI (r.2.2 (c * 3 + i)) ∧ ∀ q, q < 6 → I 167 (6 * j + q) = jPd (r.2.1 (c * 3 + i)) (r.2.2 (c * 3 + i)) q) ∧ ∀ q, q < 6 → I 168 q = nI (jP q) ∧ I 169 q = jLg q
set_option maxHeartbeats 1000000 in
theorem m_isIn {h : aH} {x a b : Int32} : aMp mX11_isIn [.ref 159, .int x, .int a, .int b] h (.int (bI (decide (a ≤ x) && decide (x ≤ b)))) := by
  refine aM_of plX11_isIn (Nat.le_of_ble_eq_true rfl) ?_
  refine aX_iload_n dX11_isIn_0 rfl ?_
  refine aX_iload_n dX11_isIn_1 rfl ?_
  refine aX_icmp_lt (tgt := 14) dX11_isIn_2 (by decide) (fun c1 => ?_) (fun c1 => ?_)
  · refine aX_iconst (v := nI 0) dX11_isIn_14 (by decide) ?_
    exact rZ dX11_isIn_15 rfl (Or.inl rfl) (⟨rfl, by rw [show (decide (a ≤ x) && decide (x ≤ b)) = false by first | (simp [Int32.not_lt.mp c1, Int32.not_lt.mp c2]) | (simp [Int32.not_le.mpr c1]) | (simp [Int32.not_le.mpr c2])]; rfl⟩)
  · refine aX_iload_n dX11_isIn_5 rfl ?_
    refine aX_iload_n dX11_isIn_6 rfl ?_
    refine aX_icmp_gt (tgt := 14) dX11_isIn_7 (by decide) (fun c2 => ?_) (fun c2 => ?_)
    · refine aX_iconst (v := nI 0) dX11_isIn_14 (by decide) ?_
      exact rZ dX11_isIn_15 rfl (Or.inl rfl) (⟨rfl, by rw [show (decide (a ≤ x) && decide (x ≤ b)) = false by first | (simp [Int32.not_lt.mp c1, Int32.not_lt.mp c2]) | (simp [Int32.not_le.mpr c1]) | (simp [Int32.not_le.mpr c2])]; rfl⟩)
    · refine aX_iconst (v := nI 1) dX11_isIn_10 (by decide) ?_
      refine aX_goto (tgt := 15) dX11_isIn_11 (by decide) ?_
      exact rZ dX11_isIn_15 rfl (Or.inr rfl) (⟨rfl, by rw [show (decide (a ≤ x) && decide (x ≤ b)) = true by first | (simp [Int32.not_lt.mp c1, Int32.not_lt.mp c2]) | (simp [Int32.not_le.mpr c1]) | (simp [Int32.not_le.mpr c2])]; rfl⟩)
theorem isIn_jIx {x : Int32} {n : Nat} (hn : n < 2 ^ 30) : (decide (nI 0 ≤ x) && decide (x ≤ nI n - nI 1)) = jIx x n := by
  have h0 : (nI 0 : Int32) = iZ 0 := rfl
  unfold jIx
  have hz : (0 : Int32) = iZ 0 := rfl
  have e1 : nI n - nI 1 = iZ ((n : Int) - 1) := by rw [nZ, nZ, iZ_sub]; rfl
  have e2 : nI n = iZ (n : Int) := nZ n
  have hx1 := Int32.le_toInt x
  have hx2 := Int32.toInt_lt x
  have c1 : (nI 0 ≤ x) ↔ 0 ≤ x.toInt := by rw [h0, Int32.le_iff_toInt_le, iZ_toInt (by omega) (by omega)]
  have c2 : (x ≤ nI n - nI 1) ↔ x.toInt ≤ (n : Int) - 1 := by rw [e1, Int32.le_iff_toInt_le, iZ_toInt (by omega) (by omega)]
  have c3 : (x < 0) ↔ x.toInt < 0 := by rw [hz, Int32.lt_iff_toInt_lt, iZ_toInt (by omega) (by omega)]
  have c4 : (x < nI n) ↔ x.toInt < (n : Int) := by rw [e2, Int32.lt_iff_toInt_lt, iZ_toInt (by omega) (by omega)]
  have d1 : decide (nI 0 ≤ x) = !decide (x < 0) := by
    by_cases g : x.toInt < 0
    · rw [decide_eq_false (fun z => absurd (c1.mp z) (by omega)), decide_eq_true (c3.mpr g)]; rfl
    · rw [decide_eq_true (c1.mpr (by omega)), decide_eq_false (fun z => g (c3.mp z))]; rfl
  have d2 : decide (x ≤ nI n - nI 1) = decide (x < nI n) := by
    by_cases g : x.toInt < (n : Int)
    · rw [decide_eq_true (c2.mpr (by omega)), decide_eq_true (c4.mpr g)]
    · rw [decide_eq_false (fun z => absurd (c2.mp z) (by omega)), decide_eq_false (fun z => g (c4.mp z))]
  rw [d1, d2]
set_option maxHeartbeats 1000000 in
theorem m_isNote {I : Nat → Nat → Int32} {L : Nat → Nat → Int64} {R : Nat → Nat → Option Nat} (hR : aRf R) {s : jN} (hs : mnRep I s) (ho : jOk s) {x : Int32} : aMp mX11_isNote [.ref 159, .int x] (sh0, I, L, R) (.int (bI (jIx x s.1))) := by
  have hn := ho.1
  refine aM_of plX11_isNote (Nat.le_of_ble_eq_true rfl) ?_
  refine aX_aload_n dX11_isNote_0 rfl ?_
  refine aX_iload_n dX11_isNote_1 rfl ?_
  refine aX_iconst (v := nI 0) dX11_isNote_2 (by decide) ?_
  refine aX_aload_n dX11_isNote_3 rfl ?_
  refine aX_get (v := .int (nI (s.1))) dX11_isNote_4 lfX11_150 s159 (congrArg Value.int (hs.1)) ?_
  refine aX_iconst (v := nI 1) dX11_isNote_7 (by decide) ?_
  refine aX_isub dX11_isNote_8 ?_
  refine cVp (As := [.int (x), .int (nI (0)), .int ((nI (s.1)) - (nI (1)))]) (st := []) (v := .int (bI (decide (nI 0 ≤ x) && decide (x ≤ nI s.1 - nI 1)))) dX11_isNote_9 kX11_isNote_180 s159 aEok0 rfl rfl (Nat.le_of_ble_eq_true rfl) (m_isIn) ?_
  exact rZ dX11_isNote_12 rfl (bI_01 _) (⟨rfl, by rw [isIn_jIx (by omega)]⟩)
set_option maxHeartbeats 1000000 in
theorem m_isSet {I : Nat → Nat → Int32} {L : Nat → Nat → Int64} {R : Nat → Nat → Option Nat} (hR : aRf R) {s : jN} (hs : mnRep I s) (ho : jOk s) {S : List (Nat × Nat)} (hS : msRep I s S) (hSl : S.length ≤ 31) {x : Int32} : aMp mX11_isSet [.ref 159, .int x] (sh0, I, L, R) (.int (bI (jIx x S.length))) := by
  have hn := ho.1
  refine aM_of plX11_isSet (Nat.le_of_ble_eq_true rfl) ?_
  refine aX_aload_n dX11_isSet_0 rfl ?_
  refine aX_iload_n dX11_isSet_1 rfl ?_
  refine aX_iconst (v := nI 0) dX11_isSet_2 (by decide) ?_
  refine aX_aload_n dX11_isSet_3 rfl ?_
  refine aX_get (v := .int (nI (S.length))) dX11_isSet_4 lfX11_154 s159 (congrArg Value.int (hS.1)) ?_
  refine aX_iconst (v := nI 1) dX11_isSet_7 (by decide) ?_
  refine aX_isub dX11_isSet_8 ?_
  refine cVp (As := [.int (x), .int (nI (0)), .int ((nI (S.length)) - (nI (1)))]) (st := []) (v := .int (bI (decide (nI 0 ≤ x) && decide (x ≤ nI S.length - nI 1)))) dX11_isSet_9 kX11_isSet_180 s159 aEok0 rfl rfl (Nat.le_of_ble_eq_true rfl) (m_isIn) ?_
  exact rZ dX11_isSet_12 rfl (bI_01 _) (⟨rfl, by rw [isIn_jIx (by omega)]⟩)
set_option maxHeartbeats 1000000 in
theorem m_sounds0 {I : Nat → Nat → Int32} {L : Nat → Nat → Int64} {R : Nat → Nat → Option Nat} (hR : aRf R) {s : jN} (hs : mnRep I s) (ho : jOk s) {S : List (Nat × Nat)} (hS : msRep I s S) (hSl : S.length ≤ 31) {k i : Nat} {q : Nat × Nat} (hq : S[k]? = some q) (hi : i < s.1) : aMp mX11_sounds0 [.ref 159, .int (nI k), .int (nI i)] (sh0, I, L, R) (.int (bI (jOn s i q.1))) := by
  have hn := ho.1
  have hkl : k < S.length := (List.getElem?_eq_some_iff.mp hq).1
  have hbl := jBt_lt s q.1 s.1
  have hbp : 2 ^ s.1 ≤ 2 ^ 16 := Nat.pow_le_pow_right (by decide) hn
  have hdl : jBt s q.1 s.1 / 2 ^ i ≤ jBt s q.1 s.1 := Nat.div_le_self _ _
  refine aM_of plX11_sounds0 (Nat.le_of_ble_eq_true rfl) ?_
  refine aX_aload_n dX11_sounds0_0 rfl ?_
  refine aX_get dX11_sounds0_1 lfX11_57 s159 (f159_17 hR) ?_
  refine aX_iload_n dX11_sounds0_4 rfl ?_
  refine nIald (v := nI (jBt s q.1 s.1)) dX11_sounds0_5 s173 (by first | omega | exact Nat.lt_of_le_of_lt (Nat.mod_le _ _) (by omega)) (by decide) ((hS.2 k q hq).2.2.1) ?_
  refine aX_iload_n dX11_sounds0_6 rfl ?_
  refine nShr dX11_sounds0_7 (by first | omega | exact Nat.lt_of_le_of_lt (Nat.mod_le _ _) (by omega)) (by first | omega | exact Nat.lt_of_le_of_lt (Nat.mod_le _ _) (by omega)) ?_
  refine aX_iconst (v := nI 1) dX11_sounds0_8 (by decide) ?_
  refine nAnd 1 dX11_sounds0_9 rfl (by decide) (by first | omega | exact Nat.lt_of_le_of_lt (Nat.mod_le _ _) (by omega)) ?_
  refine aX_iconst (v := nI 1) dX11_sounds0_10 (by decide) ?_
  refine nNe (tgt := 18) dX11_sounds0_11 (by decide) (by first | omega | exact Nat.lt_of_le_of_lt (Nat.mod_le _ _) (by omega)) (by first | omega | exact Nat.lt_of_le_of_lt (Nat.mod_le _ _) (by omega)) (fun c1 => ?_) (fun c1 => ?_)
  · refine aX_iconst (v := nI 0) dX11_sounds0_18 (by decide) ?_
    exact rZ dX11_sounds0_19 rfl (Or.inl rfl) (⟨rfl, by rw [show jOn s i q.1 = false by exact Bool.eq_false_iff.mpr (fun z => c1 ((jBt_at s.1 i hi).mpr z))]; rfl⟩)
  · refine aX_iconst (v := nI 1) dX11_sounds0_14 (by decide) ?_
    refine aX_goto (tgt := 19) dX11_sounds0_15 (by decide) ?_
    exact rZ dX11_sounds0_19 rfl (Or.inr rfl) (⟨rfl, by rw [show jOn s i q.1 = true by exact (jBt_at s.1 i hi).mp c1]; rfl⟩)
set_option maxHeartbeats 1000000 in
theorem m_typeOf {I : Nat → Nat → Int32} {L : Nat → Nat → Int64} {R : Nat → Nat → Option Nat} (hR : aRf R) {s : jN} (hs : mnRep I s) (ho : jOk s) {S : List (Nat × Nat)} (hS : msRep I s S) (hSl : S.length ≤ 31) {k i : Nat} {q : Nat × Nat} (hq : S[k]? = some q) (hi : i < s.1) (hon : jOn s i q.1 = true) : aMp mX11_typeOf [.ref 159, .int (nI k), .int (nI i)] (sh0, I, L, R) (.int (nI (jSt s q.1 i % 12))) := by
  have hn := ho.1
  have hkl : k < S.length := (List.getElem?_eq_some_iff.mp hq).1
  have hsp : 0 < jSnd s q.1 := by
    refine Nat.pos_of_ne_zero (fun z => ?_)
    have h1 := jML_mem (s := s) (t := q.1) (n := s.1) (m := i) |>.mpr ⟨hi, hon⟩
    have h2 := jMem_len (s := s) q.1
    rw [z] at h2
    have h3 : jMem s q.1 = [] := List.eq_nil_of_length_eq_zero h2
    have h4 : i ∈ jMem s q.1 := h1
    rw [h3] at h4; cases h4
  have hb := jBase_in hsp
  have hle := jMem_min hb.1 hi hon
  have hb1 := hb.2.1
  have hki := (ho.2 i hi).1
  have hkb := (ho.2 _ hb1).1
  refine aM_of plX11_typeOf (Nat.le_of_ble_eq_true rfl) ?_
  refine aX_aload_n dX11_typeOf_0 rfl ?_
  refine aX_get dX11_typeOf_1 lfX11_7 s159 (f159_1 hR) ?_
  refine aX_iload_n dX11_typeOf_4 rfl ?_
  refine nIald (v := nI (s.2.1 i)) dX11_typeOf_5 s160 (by first | omega | exact Nat.lt_of_le_of_lt (Nat.mod_le _ _) (by omega)) (by decide) ((hs.2 i (by omega)).1) ?_
  refine aX_aload_n dX11_typeOf_6 rfl ?_
  refine aX_get dX11_typeOf_7 lfX11_7 s159 (f159_1 hR) ?_
  refine aX_aload_n dX11_typeOf_10 rfl ?_
  refine aX_get dX11_typeOf_11 lfX11_60 s159 (f159_18 hR) ?_
  refine aX_iload_n dX11_typeOf_14 rfl ?_
  refine nIald (v := nI (jBase s q.1)) dX11_typeOf_15 s174 (by first | omega | exact Nat.lt_of_le_of_lt (Nat.mod_le _ _) (by omega)) (by decide) ((hS.2 k q hq).2.2.2.1) ?_
  refine nIald (v := nI (s.2.1 (jBase s q.1))) dX11_typeOf_16 s160 (by first | omega | exact Nat.lt_of_le_of_lt (Nat.mod_le _ _) (by omega)) (by decide) ((hs.2 (jBase s q.1) (by omega)).1) ?_
  refine nSub dX11_typeOf_17 (by first | omega | exact Nat.lt_of_le_of_lt (Nat.mod_le _ _) (by omega)) ?_
  refine aX_bipush (v := nI 12) dX11_typeOf_18 (by decide) ?_
  refine nRem dX11_typeOf_20 (by first | omega | exact Nat.lt_of_le_of_lt (Nat.mod_le _ _) (by omega)) (by first | omega | exact Nat.lt_of_le_of_lt (Nat.mod_le _ _) (by omega)) (by first | omega | exact Nat.lt_of_le_of_lt (Nat.mod_le _ _) (by omega)) ?_
  exact rI dX11_typeOf_21 rfl (⟨rfl, rfl⟩)
set_option maxHeartbeats 1000000 in
theorem m_octavesOf {I : Nat → Nat → Int32} {L : Nat → Nat → Int64} {R : Nat → Nat → Option Nat} (hR : aRf R) {s : jN} (hs : mnRep I s) (ho : jOk s) {S : List (Nat × Nat)} (hS : msRep I s S) (hSl : S.length ≤ 31) {k i : Nat} {q : Nat × Nat} (hq : S[k]? = some q) (hi : i < s.1) (hon : jOn s i q.1 = true) : aMp mX11_octavesOf [.ref 159, .int (nI k), .int (nI i)] (sh0, I, L, R) (.int (nI (jSt s q.1 i / 12))) := by
  have hn := ho.1
  have hkl : k < S.length := (List.getElem?_eq_some_iff.mp hq).1
  have hsp : 0 < jSnd s q.1 := by
    refine Nat.pos_of_ne_zero (fun z => ?_)
    have h1 := jML_mem (s := s) (t := q.1) (n := s.1) (m := i) |>.mpr ⟨hi, hon⟩
    have h2 := jMem_len (s := s) q.1
    rw [z] at h2
    have h3 : jMem s q.1 = [] := List.eq_nil_of_length_eq_zero h2
    have h4 : i ∈ jMem s q.1 := h1
    rw [h3] at h4; cases h4
  have hb := jBase_in hsp
  have hle := jMem_min hb.1 hi hon
  have hb1 := hb.2.1
  have hki := (ho.2 i hi).1
  have hkb := (ho.2 _ hb1).1
  refine aM_of plX11_octavesOf (Nat.le_of_ble_eq_true rfl) ?_
  refine aX_aload_n dX11_octavesOf_0 rfl ?_
  refine aX_get dX11_octavesOf_1 lfX11_7 s159 (f159_1 hR) ?_
  refine aX_iload_n dX11_octavesOf_4 rfl ?_
  refine nIald (v := nI (s.2.1 i)) dX11_octavesOf_5 s160 (by first | omega | exact Nat.lt_of_le_of_lt (Nat.mod_le _ _) (by omega)) (by decide) ((hs.2 i (by omega)).1) ?_
  refine aX_aload_n dX11_octavesOf_6 rfl ?_
  refine aX_get dX11_octavesOf_7 lfX11_7 s159 (f159_1 hR) ?_
  refine aX_aload_n dX11_octavesOf_10 rfl ?_
  refine aX_get dX11_octavesOf_11 lfX11_60 s159 (f159_18 hR) ?_
  refine aX_iload_n dX11_octavesOf_14 rfl ?_
  refine nIald (v := nI (jBase s q.1)) dX11_octavesOf_15 s174 (by first | omega | exact Nat.lt_of_le_of_lt (Nat.mod_le _ _) (by omega)) (by decide) ((hS.2 k q hq).2.2.2.1) ?_
  refine nIald (v := nI (s.2.1 (jBase s q.1))) dX11_octavesOf_16 s160 (by first | omega | exact Nat.lt_of_le_of_lt (Nat.mod_le _ _) (by omega)) (by decide) ((hs.2 (jBase s q.1) (by omega)).1) ?_
  refine nSub dX11_octavesOf_17 (by first | omega | exact Nat.lt_of_le_of_lt (Nat.mod_le _ _) (by omega)) ?_
  refine aX_bipush (v := nI 12) dX11_octavesOf_18 (by decide) ?_
  refine nDiv dX11_octavesOf_20 (by first | omega | exact Nat.lt_of_le_of_lt (Nat.mod_le _ _) (by omega)) (by first | omega | exact Nat.lt_of_le_of_lt (Nat.mod_le _ _) (by omega)) (by first | omega | exact Nat.lt_of_le_of_lt (Nat.mod_le _ _) (by omega)) ?_
  exact rI dX11_octavesOf_21 rfl (⟨rfl, rfl⟩)
/-- how often, without a bound -/
theorem jPw_more : ∀ (f v q : Nat), 2 ≤ q → 0 < v → v < 2 ^ f → ∀ g, f ≤ g → jPw g v q = jPw f v q
  | 0, v, q, _, h0, h, _, _ => absurd h (by simp; omega)
  | f + 1, v, q, hq, h0, h, g, hg => by
    obtain ⟨g', rfl⟩ : ∃ g', g = g' + 1 := ⟨g - 1, by omega⟩
    show (if v % q = 0 then jPw g' (v / q) q + 1 else 0) = (if v % q = 0 then jPw f (v / q) q + 1 else 0)
    by_cases e : v % q = 0
    · rw [if_pos e, if_pos e]
      have h1 : q ≤ v := Nat.le_of_dvd h0 (Nat.dvd_of_mod_eq_zero e)
      have h2 : 0 < v / q := Nat.div_pos h1 (by omega)
      have h3 : v / q < 2 ^ f := by
        have : v / q ≤ v / 2 := Nat.div_le_div_left hq (by decide)
        rw [Nat.pow_succ] at h; omega
      rw [jPw_more f (v / q) q hq h2 h3 g' (by omega)]
    · rw [if_neg e, if_neg e]
set_option maxHeartbeats 1000000 in
theorem ml_powerOf {h : aH} {v0 q : Nat} (hq2 : 2 ≤ q) (hq : q < 2 ^ 31) : ∀ (v : Nat), 0 < v → v < 2 ^ 14 → ∀ (c : Nat), c ≤ 14 → c + jPw 14 v q = jPw 14 v0 q → aX mX11_powerOf aE0 h 5 [(0, .ref 159), (1, .int (nI v0)), (2, .int (nI q)), (3, .int (nI c)), (4, .int (nI v))] [] 0 0 (fun ans h' => h' = h ∧ ans = some (.int (nI (jPw 14 v0 q)))) := by
  intro v
  induction v using Nat.strongRecOn with
  | _ v ih =>
    intro h0 hv c hcl hc
    refine aX_iload dX11_powerOf_5 rfl ?_
    refine aX_iload_n dX11_powerOf_7 rfl ?_
    refine nRem dX11_powerOf_8 (by first | omega | exact Nat.lt_of_le_of_lt (Nat.mod_le _ _) (by omega)) (by first | omega | exact Nat.lt_of_le_of_lt (Nat.mod_le _ _) (by omega)) (by first | omega | exact Nat.lt_of_le_of_lt (Nat.mod_le _ _) (by omega)) ?_
    refine nIf_ne (tgt := 24) dX11_powerOf_9 (by decide) (by first | omega | exact Nat.lt_of_le_of_lt (Nat.mod_le _ _) (by omega)) (fun c1 => ?_) (fun c1 => ?_)
    · refine aX_iload_n dX11_powerOf_24 rfl ?_
      exact rI dX11_powerOf_25 rfl (⟨rfl, by rw [← hc]; show _ = some (Value.int (nI (c + (if v % q = 0 then jPw 13 (v / q) q + 1 else 0)))); rw [if_neg (by omega)]; rfl⟩)
    · refine aX_iload dX11_powerOf_12 rfl ?_
      refine aX_iload_n dX11_powerOf_14 rfl ?_
      refine nDiv dX11_powerOf_15 (by first | omega | exact Nat.lt_of_le_of_lt (Nat.mod_le _ _) (by omega)) (by first | omega | exact Nat.lt_of_le_of_lt (Nat.mod_le _ _) (by omega)) (by first | omega | exact Nat.lt_of_le_of_lt (Nat.mod_le _ _) (by omega)) ?_
      refine aX_istore (lv' := [(0, .ref 159), (1, .int (nI (v0))), (2, .int (nI (q))), (3, .int (nI (c))), (4, .int (nI (v / q)))]) dX11_powerOf_16 (by decide) rfl ?_
      refine nInc (lv' := [(0, .ref 159), (1, .int (nI (v0))), (2, .int (nI (q))), (3, .int (nI (c + 1))), (4, .int (nI (v / q)))]) dX11_powerOf_18 rfl rfl (by decide) rfl ?_
      refine aX_goto (tgt := 5) dX11_powerOf_21 (by decide) ?_
      have hd1 : v / q < v := Nat.div_lt_self (by omega) (by omega)
      have hd0 : 0 < v / q := Nat.div_pos (Nat.le_of_dvd (by omega) (Nat.dvd_of_mod_eq_zero c1)) (by omega)
      have hd2 : v / q ≤ v / 2 := Nat.div_le_div_left hq2 (by decide)
      have hstep : jPw 14 v q = jPw 14 (v / q) q + 1 := by
        show (if v % q = 0 then jPw 13 (v / q) q + 1 else 0) = _
        rw [if_pos c1, jPw_more 13 (v / q) q hq2 hd0 (by omega) 14 (by decide)]
      have hw := jPw_le 14 v0 q
      exact ih (v / q) hd1 hd0 (by omega) (c + 1) (by omega) (by omega)
set_option maxHeartbeats 1000000 in
theorem m_powerOf {h : aH} {v0 q : Nat} (hq2 : 2 ≤ q) (hq : q < 2 ^ 31) (h0 : 0 < v0) (hv : v0 < 2 ^ 14) : aMp mX11_powerOf [.ref 159, .int (nI v0), .int (nI q)] h (.int (nI (jPw 14 v0 q))) := by
  refine aM_of plX11_powerOf (Nat.le_of_ble_eq_true rfl) ?_
  refine aX_iconst (v := nI 0) dX11_powerOf_0 (by decide) ?_
  refine aX_istore_n (lv' := [(0, .ref 159), (1, .int (nI (v0))), (2, .int (nI (q))), (3, .int (nI (0)))]) dX11_powerOf_1 (by decide) rfl ?_
  refine aX_iload_n dX11_powerOf_2 rfl ?_
  refine aX_istore (lv' := [(0, .ref 159), (1, .int (nI (v0))), (2, .int (nI (q))), (3, .int (nI (0))), (4, .int (nI (v0)))]) dX11_powerOf_3 (by decide) rfl ?_
  exact ml_powerOf hq2 hq v0 h0 hv 0 (by omega) (by omega)
def rQ (sl : Nat) : Int32 := if sl = 36 then -9 else nI sl
theorem jPd_11 (q : Nat) (hq : q < 6) : jPd 1 1 q = nI 0 := by
  rcases (show q = 0 ∨ q = 1 ∨ q = 2 ∨ q = 3 ∨ q = 4 ∨ q = 5 by omega) with rfl | rfl | rfl | rfl | rfl | rfl <;> rfl
theorem nI_ne9 {a : Nat} (h : a < 2 ^ 31) : ¬ nI a = -9 := fun e => by
  have := nI_pos' h
  rw [e] at this
  exact absurd this (by decide)
set_option maxHeartbeats 1000000 in
theorem m_power {I : Nat → Nat → Int32} {L : Nat → Nat → Int64} {R : Nat → Nat → Option Nat} (hR : aRf R) {r : jR} (hl : mlRep I r) {sl : Nat} (hsl : slOk r sl) {q : Nat} (hq : q < 6) : aMp mX11_power [.ref 159, .int (rQ sl), .int (nI q)] (sh0, I, L, R) (.int (jPd (jU r sl) (jD r sl) q)) := by
  by_cases e36 : sl = 36
  · subst e36
    rw [show rQ 36 = (-9) from rfl]
    refine aM_of plX11_power (Nat.le_of_ble_eq_true rfl) ?_
    refine aX_iload_n dX11_power_0 rfl ?_
    refine aX_bipush (v := (-9)) dX11_power_1 (by decide) ?_
    refine aX_icmp_ne (tgt := 10) dX11_power_3 (by decide) (fun c1 => ?_) (fun c1 => ?_)
    · exact absurd rfl c1
    · refine aX_iconst (v := nI 0) dX11_power_6 (by decide) ?_
      refine aX_goto (tgt := 21) dX11_power_7 (by decide) ?_
      exact rI dX11_power_21 rfl (⟨rfl, by unfold jU jD; rw [if_pos rfl, if_pos rfl, jPd_11 q hq]⟩)
  · obtain ⟨c, i, hc, hi, e3⟩ := hsl.resolve_left e36
    have hrk := (hl.1 c hc).1
    rw [show rQ sl = nI sl from if_neg e36]
    refine aM_of plX11_power (Nat.le_of_ble_eq_true rfl) ?_
    refine aX_iload_n dX11_power_0 rfl ?_
    refine aX_bipush (v := (-9)) dX11_power_1 (by decide) ?_
    refine aX_icmp_ne (tgt := 10) dX11_power_3 (by decide) (fun c1 => ?_) (fun c1 => ?_)
    · refine aX_aload_n dX11_power_10 rfl ?_
      refine aX_get dX11_power_11 lfX11_32 s159 (f159_8 hR) ?_
      refine aX_bipush (v := nI 6) dX11_power_14 (by decide) ?_
      refine aX_iload_n dX11_power_16 rfl ?_
      refine nMul dX11_power_17 ?_
      refine aX_iload_n dX11_power_18 rfl ?_
      refine nAdd dX11_power_19 ?_
      refine nIald (v := jPd (r.2.1 (c * 3 + i)) (r.2.2 (c * 3 + i)) q) dX11_power_20 s167 (by first | omega | exact Nat.lt_of_le_of_lt (Nat.mod_le _ _) (by omega)) (by decide) ((hl.2.2.1 c i sl hc hi e3).2.2 q hq) ?_
      exact rI dX11_power_21 rfl (⟨rfl, by unfold jU jD; rw [if_neg e36, if_neg e36, e3]⟩)
    · exact absurd c1 (nI_ne9 (by omega))
