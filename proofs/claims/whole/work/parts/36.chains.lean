/-! THE CHAINS -/
def jPq (s : jN) (r : jR) (b rd m p : Nat) : Int32 := jPd (jU r (jSl s r b rd m)) (jD r (jSl s r b rd m)) p
def jOc (s : jN) (b m : Nat) : Int32 := nI (jSt s b m / 12)
/-- a shift, multiplied by a note's ratio and octaves -/
def jMu (s : jN) (r : jR) (ch : Nat → Nat) (pl m : Nat) (sg : Int32) (G : Nat → Int32) (p : Nat) : Int32 := if p = 0 then (G 0 + sg * jPq s r (jB s pl) (ch pl) m 0) + sg * jOc s (jB s pl) m else G p + sg * jPq s r (jB s pl) (ch pl) m p
def jSh (s : jN) (r : jR) (ch : Nat → Nat) : Nat → Nat → Int32
  | 0, _ => 0
  | k + 1, p => match (jCm s k)[0]? with
    | none => 0
    | some m => jMu s r ch (k + 1) m (-1) (jMu s r ch k m 1 (jSh s r ch k)) p
def jChn (s : jN) : Nat → Nat
  | 0 => 0
  | k + 1 => match (jCm s k)[0]? with
    | none => k + 1
    | some _ => jChn s k
theorem jChn_le (s : jN) : ∀ k, jChn s k ≤ k
  | 0 => Nat.le_refl _
  | k + 1 => by
    have := jChn_le s k
    unfold jChn
    split <;> omega
def jBk (s : jN) (k : Nat) : Nat := s.2.1 (jBase s (jB s k))
def jLs (f : Nat → Int32) : Nat → Int32
  | 0 => 0
  | n + 1 => jLs f n + f n * jLg n
def jDr (s : jN) (r : jR) (ch : Nat → Nat) (k : Nat) : Int32 := jLs (jSh s r ch k) 6 - nI 10000 * (nI (jBk s k) - nI (jBk s (jChn s k)))
def chIn (I : Nat → Nat → Int32) (s : jN) (r : jR) (ch : Nat → Nat) (k : Nat) : Prop := I 51 k = nI (jChn s k) ∧ (∀ p, p < 6 → I 50 (k * 6 + p) = jSh s r ch k p) ∧ I 52 k = jDr s r ch k
def chRep (I : Nat → Nat → Int32) (s : jN) (r : jR) (ch : Nat → Nat) : Prop := ∀ k, k < (jS s).length → chIn I s r ch k
def cgRep (I : Nat → Nat → Int32) (s : jN) (ch : Nat → Nat) : Prop := ∀ k, k < (jS s).length → I 42 k = nI (ch k) ∧ ch k < 2 ^ 31
def jPm (s : jN) (r : jR) (ch : Nat → Nat) (a b : Nat) : Bool := decide (jChn s a = jChn s b) && decide (jBk s a = jBk s b) && decide (jDr s r ch a ≠ jDr s r ch b)
def jPi (s : jN) (r : jR) (ch : Nat → Nat) (l : Nat) : Nat → List (Nat × Nat)
  | 0 => []
  | k + 1 => if jPm s r ch k l then jPi s r ch l k ++ [(k, l)] else jPi s r ch l k
def jPo (s : jN) (r : jR) (ch : Nat → Nat) : Nat → List (Nat × Nat)
  | 0 => []
  | l + 1 => jPo s r ch l ++ jPi s r ch l l
theorem jPi_len (s : jN) (r : jR) (ch : Nat → Nat) (l : Nat) : ∀ k, (jPi s r ch l k).length ≤ k
  | 0 => Nat.le_refl _
  | k + 1 => by
    have := jPi_len s r ch l k
    unfold jPi
    split
    · simp; omega
    · omega
theorem jPo_len (s : jN) (r : jR) (ch : Nat → Nat) : ∀ l, (jPo s r ch l).length ≤ l * l
  | 0 => Nat.le_refl _
  | l + 1 => by
    have h1 := jPo_len s r ch l
    have h2 := jPi_len s r ch l l
    show (jPo s r ch l ++ jPi s r ch l l).length ≤ _
    rw [List.length_append, Nat.succ_mul_succ]
    omega
set_option maxHeartbeats 1000000 in
theorem l_begin {I : Nat → Nat → Int32} {L : Nat → Nat → Int64} {R : Nat → Nat → Option Nat} (hR : aRf R) {k : Nat} (hk : k < 31) : ∀ (k9 i : Nat), i ≤ 6 → 6 - i = k9 → ∀ (I1 : Nat → Nat → Int32), I1 51 k = nI k → (∀ p, p < i → I1 50 (k * 6 + p) = 0) → (∀ q j, ¬ (q = 51 ∧ j = k) → ¬ (q = 50 ∧ k * 6 ≤ j ∧ j < k * 6 + 6) → I1 q j = I q j) → aX mX0_begin aE0 (sh0, I1, L, R) 9 [(0, .ref 49), (1, .int (nI (k))), (2, .int (nI (i)))] [] 0 0 (fun ans h' => ans = none ∧ ∃ I', h' = (sh0, I', L, R) ∧ I' 51 k = nI k ∧ (∀ p, p < 6 → I' 50 (k * 6 + p) = 0) ∧ (∀ q j, ¬ (q = 51 ∧ j = k) → ¬ (q = 50 ∧ k * 6 ≤ j ∧ j < k * 6 + 6) → I' q j = I q j)) := by
  intro k9
  induction k9 using Nat.strongRecOn with
  | _ k9 ih =>
    intro i hi hk9 I1  h1 h2 hke
    refine aX_iload_n dX0_begin_9 rfl ?_
    refine aX_bipush (v := nI 6) dX0_begin_10 (by decide) ?_
    refine nGe (tgt := 33) dX0_begin_12 (by decide) (by first | omega | exact Nat.lt_of_le_of_lt (Nat.mod_le _ _) (by omega)) (by first | omega | exact Nat.lt_of_le_of_lt (Nat.mod_le _ _) (by omega)) (fun c1 => ?_) (fun c1 => ?_)
    · exact rV dX0_begin_33 rfl (⟨rfl, I1, rfl, h1, fun p hp => h2 p (by omega), hke⟩)
    · refine aX_aload_n dX0_begin_15 rfl ?_
      refine aX_get dX0_begin_16 lfX0_9 s49 (f49_4 hR) ?_
      refine aX_iload_n dX0_begin_19 rfl ?_
      refine aX_bipush (v := nI 6) dX0_begin_20 (by decide) ?_
      refine nMul dX0_begin_22 ?_
      refine aX_iload_n dX0_begin_23 rfl ?_
      refine nAdd dX0_begin_24 ?_
      refine aX_iconst (v := nI 0) dX0_begin_25 (by decide) ?_
      refine nIast dX0_begin_26 s50 (by first | omega | exact Nat.lt_of_le_of_lt (Nat.mod_le _ _) (by omega)) (by decide) ?_
      refine nInc (lv' := [(0, .ref 49), (1, .int (nI (k))), (2, .int (nI (i + 1)))]) dX0_begin_27 rfl rfl (by decide) rfl ?_
      refine aX_goto (tgt := 9) dX0_begin_30 (by decide) ?_
      exact ih (6 - (i + 1)) (by omega) (i + 1) (by omega) rfl _ (by rw [aU_n (by omega)]; exact h1) (fun p hp => by
        by_cases e : p = i
        · subst e; rw [aU_s]; rfl
        · rw [aU_n (by omega)]; exact h2 p (by omega)) (fun q j g1 g2 => by rw [aU_n (by omega)]; exact hke q j g1 g2)
set_option maxHeartbeats 1000000 in
theorem c_begin {I : Nat → Nat → Int32} {L : Nat → Nat → Int64} {R : Nat → Nat → Option Nat} (hR : aRf R) {k : Nat} (hk : k < 31) : aM mX0_begin [.ref 49, .int (nI k)] (sh0, I, L, R) (fun ans h' => ans = none ∧ ∃ I', h' = (sh0, I', L, R) ∧ I' 51 k = nI k ∧ (∀ p, p < 6 → I' 50 (k * 6 + p) = 0) ∧ (∀ q j, ¬ (q = 51 ∧ j = k) → ¬ (q = 50 ∧ k * 6 ≤ j ∧ j < k * 6 + 6) → I' q j = I q j)) := by
  refine aM_of plX0_begin (Nat.le_of_ble_eq_true rfl) ?_
  refine aX_aload_n dX0_begin_0 rfl ?_
  refine aX_get dX0_begin_1 lfX0_15 s49 (f49_5 hR) ?_
  refine aX_iload_n dX0_begin_4 rfl ?_
  refine aX_iload_n dX0_begin_5 rfl ?_
  refine nIast dX0_begin_6 s51 (by first | omega | exact Nat.lt_of_le_of_lt (Nat.mod_le _ _) (by omega)) (by decide) ?_
  refine aX_iconst (v := nI 0) dX0_begin_7 (by decide) ?_
  refine aX_istore_n (lv' := [(0, .ref 49), (1, .int (nI (k))), (2, .int (nI (0)))]) dX0_begin_8 (by decide) rfl ?_
  exact l_begin hR hk _ 0 (by omega) rfl _ aU_s (fun p hp => by omega) (fun q j g1 g2 => by rw [aU_n (by omega)])
set_option maxHeartbeats 1000000 in
theorem l_multiply {I : Nat → Nat → Int32} {L : Nat → Nat → Int64} {R : Nat → Nat → Option Nat} (hR : aRf R) {s : jN} (hc : cRep I s) {r : jR} (hr : rRep I r) {ch : Nat → Nat} (hch : cgRep I s ch) {k : Nat} (hk : k < 31) {pl m : Nat} (hpl : pl < (jS s).length) (hm : m < s.1) (hon : jOn s m (jB s pl) = true) {sg : Int32} {G : Nat → Int32} (hG : ∀ p, p < 6 → I 50 (k * 6 + p) = G p) : ∀ (k9 i : Nat), i ≤ 6 → 6 - i = k9 → ∀ (I1 : Nat → Nat → Int32), (∀ p, p < i → I1 50 (k * 6 + p) = G p + sg * jPq s r (jB s pl) (ch pl) m p) → (∀ p, i ≤ p → p < 6 → I1 50 (k * 6 + p) = G p) → (∀ q j, q ≠ 40 → ¬ (q = 50 ∧ k * 6 ≤ j ∧ j < k * 6 + 6) → I1 q j = I q j) → aX mX0_multiply aE0 (sh0, I1, L, R) 31 [(0, .ref 49), (1, .int (nI (k))), (2, .int (nI (pl))), (3, .int (nI (m))), (4, .int (sg)), (5, .int (nI (jSl s r (jB s pl) (ch pl) m))), (6, .int (nI (i)))] [] 0 0 (fun ans h' => ans = none ∧ ∃ I', h' = (sh0, I', L, R) ∧ (∀ p, p < 6 → I' 50 (k * 6 + p) = jMu s r ch pl m sg G p) ∧ (∀ q j, q ≠ 40 → ¬ (q = 50 ∧ k * 6 ≤ j ∧ j < k * 6 + 6) → I' q j = I q j)) := by
  intro k9
  induction k9 using Nat.strongRecOn with
  | _ k9 ih =>
    intro i hi hk9 I1  h1 h2 hke
    obtain ⟨hs, ho, h6, hS, hV⟩ := id hc
    have hn := ho.1
    have hSl := jS_len s
    obtain ⟨q, hq, hqb⟩ := jQ hpl
    have hkp : hK 40 50 I I1 := fun q j _ _ h3 => hke q j (by omega) (by omega)
    have hc1 := cRep_hK hkp (by decide) hc
    have hr1 := rRep_hK hkp (by decide) hr
    have hsok := jSl_ok s r (jB s pl) (ch pl) m
    have hslt := slOk_lt hr.1 hsok
    have hslr := slOk_rep hr1 hsok
    have hon1 : jOn s m q.1 = true := by rw [hqb]; exact hon
    refine aX_iload dX0_multiply_31 rfl ?_
    refine aX_bipush (v := nI 6) dX0_multiply_33 (by decide) ?_
    refine nGe (tgt := 78) dX0_multiply_35 (by decide) (by first | omega | exact Nat.lt_of_le_of_lt (Nat.mod_le _ _) (by omega)) (by first | omega | exact Nat.lt_of_le_of_lt (Nat.mod_le _ _) (by omega)) (fun c1 => ?_) (fun c1 => ?_)
    · refine aX_aload_n dX0_multiply_78 rfl ?_
      refine aX_get dX0_multiply_79 lfX0_9 s49 (f49_4 hR) ?_
      refine aX_iload_n dX0_multiply_82 rfl ?_
      refine aX_bipush (v := nI 6) dX0_multiply_83 (by decide) ?_
      refine nMul dX0_multiply_85 ?_
      refine aX_dup2_11 dX0_multiply_86 rfl rfl ?_
      refine nIald (v := G 0 + sg * jPq s r (jB s pl) (ch pl) m 0) dX0_multiply_87 s50 (by first | omega | exact Nat.lt_of_le_of_lt (Nat.mod_le _ _) (by omega)) (by decide) (h1 0 (by omega)) ?_
      refine aX_iload dX0_multiply_88 rfl ?_
      refine aX_aload_n dX0_multiply_90 rfl ?_
      refine aX_get dX0_multiply_91 lfX0_29 s49 (f49_2 hR) ?_
      refine aX_iload_n dX0_multiply_94 rfl ?_
      refine aX_iload_n dX0_multiply_95 rfl ?_
      refine cVp (As := [.int (nI (pl)), .int (nI (m))]) (st := [.int (sg), .int (G 0 + sg * jPq s r (jB s pl) (ch pl) m 0), .int (nI (k * 6)), .ref 50]) (v := .int (nI (jSt s q.1 m / 12))) dX0_multiply_96 kX0_multiply_92 s39 aEok0 rfl rfl (Nat.le_of_ble_eq_true rfl) (c_octaves hR hc1 hq hm hon1) ?_
      refine aX_imul dX0_multiply_99 ?_
      refine aX_iadd dX0_multiply_100 ?_
      refine nIast dX0_multiply_101 s50 (by first | omega | exact Nat.lt_of_le_of_lt (Nat.mod_le _ _) (by omega)) (by decide) ?_
      exact rV dX0_multiply_102 rfl (⟨rfl, _, rfl, fun p hp => by
        unfold jMu
        by_cases e : p = 0
        · subst e; rw [if_pos rfl, Nat.add_zero, aU_s, hqb]; rfl
        · rw [if_neg e, aU_n (by omega)]; exact h1 p (by omega), fun q j g1 g2 => by rw [aU_n (by omega)]; exact hke q j g1 g2⟩)
    · refine aX_aload_n dX0_multiply_38 rfl ?_
      refine aX_get dX0_multiply_39 lfX0_9 s49 (f49_4 hR) ?_
      refine aX_iload_n dX0_multiply_42 rfl ?_
      refine aX_bipush (v := nI 6) dX0_multiply_43 (by decide) ?_
      refine nMul dX0_multiply_45 ?_
      refine aX_iload dX0_multiply_46 rfl ?_
      refine nAdd dX0_multiply_48 ?_
      refine aX_dup2_11 dX0_multiply_49 rfl rfl ?_
      refine nIald (v := G i) dX0_multiply_50 s50 (by first | omega | exact Nat.lt_of_le_of_lt (Nat.mod_le _ _) (by omega)) (by decide) (h2 i (Nat.le_refl _) (by omega)) ?_
      refine aX_iload dX0_multiply_51 rfl ?_
      refine aX_aload_n dX0_multiply_53 rfl ?_
      refine aX_get dX0_multiply_54 lfX0_25 s49 (f49_1 hR) ?_
      refine aX_get dX0_multiply_57 lfX0_87 s10 (f10_3 hR) ?_
      refine aX_iload dX0_multiply_60 rfl ?_
      refine aX_bipush (v := nI 6) dX0_multiply_62 (by decide) ?_
      refine nMul dX0_multiply_64 ?_
      refine aX_iload dX0_multiply_65 rfl ?_
      refine nAdd dX0_multiply_67 ?_
      refine nIald (v := jPq s r (jB s pl) (ch pl) m i) dX0_multiply_68 s14 (by first | omega | exact Nat.lt_of_le_of_lt (Nat.mod_le _ _) (by omega)) (by decide) (hslr.2.2.2 i (by omega)) ?_
      refine aX_imul dX0_multiply_69 ?_
      refine aX_iadd dX0_multiply_70 ?_
      refine nIast dX0_multiply_71 s50 (by first | omega | exact Nat.lt_of_le_of_lt (Nat.mod_le _ _) (by omega)) (by decide) ?_
      refine nInc (lv' := [(0, .ref 49), (1, .int (nI (k))), (2, .int (nI (pl))), (3, .int (nI (m))), (4, .int (sg)), (5, .int (nI (jSl s r (jB s pl) (ch pl) m))), (6, .int (nI (i + 1)))]) dX0_multiply_72 rfl rfl (by decide) rfl ?_
      refine aX_goto (tgt := 31) dX0_multiply_75 (by decide) ?_
      exact ih (6 - (i + 1)) (by omega) (i + 1) (by omega) rfl _ (fun p hp => by
        by_cases e : p = i
        · subst e; rw [aU_s]
        · rw [aU_n (by omega)]; exact h1 p (by omega)) (fun p hp hp6 => by rw [aU_n (by omega)]; exact h2 p (by omega) hp6) (fun q j g1 g2 => by rw [aU_n (by omega)]; exact hke q j g1 g2)
set_option maxHeartbeats 1000000 in
theorem c_multiply {I : Nat → Nat → Int32} {L : Nat → Nat → Int64} {R : Nat → Nat → Option Nat} (hR : aRf R) {s : jN} (hc : cRep I s) {r : jR} (hr : rRep I r) {ch : Nat → Nat} (hch : cgRep I s ch) {k : Nat} (hk : k < 31) {pl m : Nat} (hpl : pl < (jS s).length) (hm : m < s.1) (hon : jOn s m (jB s pl) = true) {sg : Int32} {G : Nat → Int32} (hG : ∀ p, p < 6 → I 50 (k * 6 + p) = G p) : aM mX0_multiply [.ref 49, .int (nI k), .int (nI pl), .int (nI m), .int sg] (sh0, I, L, R) (fun ans h' => ans = none ∧ ∃ I', h' = (sh0, I', L, R) ∧ (∀ p, p < 6 → I' 50 (k * 6 + p) = jMu s r ch pl m sg G p) ∧ (∀ q j, q ≠ 40 → ¬ (q = 50 ∧ k * 6 ≤ j ∧ j < k * 6 + 6) → I' q j = I q j)) := by
  obtain ⟨hs, ho, h6, hS, hV⟩ := id hc
  have hn := ho.1
  have hSl := jS_len s
  obtain ⟨q, hq, hqb⟩ := jQ hpl
  refine aM_of plX0_multiply (Nat.le_of_ble_eq_true rfl) ?_
  refine aX_aload_n dX0_multiply_0 rfl ?_
  refine aX_get dX0_multiply_1 lfX0_29 s49 (f49_2 hR) ?_
  refine aX_iload_n dX0_multiply_4 rfl ?_
  refine aX_aload_n dX0_multiply_5 rfl ?_
  refine aX_get dX0_multiply_6 lfX0_33 s49 (f49_3 hR) ?_
  refine aX_get dX0_multiply_9 lfX0_74 s41 (f41_3 hR) ?_
  refine aX_iload_n dX0_multiply_12 rfl ?_
  refine nIald (v := nI (ch pl)) dX0_multiply_13 s42 (by first | omega | exact Nat.lt_of_le_of_lt (Nat.mod_le _ _) (by omega)) (by decide) ((hch pl hpl).1) ?_
  refine cV (As := [.int (nI (pl)), .int (nI (ch pl))]) (st := []) dX0_multiply_14 kX0_multiply_79 s39 aEok0 rfl rfl (Nat.le_of_ble_eq_true rfl) (c_open hR hc hq hr (hch pl hpl).2) (fun r h' hq9 => ?_)
  obtain ⟨rfl, I2, rfl, hop, hk2⟩ := hq9
  refine ⟨rfl, ?_⟩
  rw [hqb] at hop
  refine aX_aload_n dX0_multiply_17 rfl ?_
  refine aX_get dX0_multiply_18 lfX0_29 s49 (f49_2 hR) ?_
  refine aX_get dX0_multiply_21 lfX0_84 s39 (f39_2 hR) ?_
  refine aX_iload_n dX0_multiply_24 rfl ?_
  refine nIald (v := nI (jSl s r (jB s pl) (ch pl) m)) dX0_multiply_25 s40 (by first | omega | exact Nat.lt_of_le_of_lt (Nat.mod_le _ _) (by omega)) (by decide) (hop m (jML_mem.mpr ⟨hm, hon⟩)) ?_
  refine aX_istore (lv' := [(0, .ref 49), (1, .int (nI (k))), (2, .int (nI (pl))), (3, .int (nI (m))), (4, .int (sg)), (5, .int (nI (jSl s r (jB s pl) (ch pl) m)))]) dX0_multiply_26 (by decide) rfl ?_
  refine aX_iconst (v := nI 0) dX0_multiply_28 (by decide) ?_
  refine aX_istore (lv' := [(0, .ref 49), (1, .int (nI (k))), (2, .int (nI (pl))), (3, .int (nI (m))), (4, .int (sg)), (5, .int (nI (jSl s r (jB s pl) (ch pl) m))), (6, .int (nI (0)))]) dX0_multiply_29 (by decide) rfl ?_
  exact l_multiply hR hc hr hch hk hpl hm hon hG _ 0 (by omega) rfl I2 (fun p hp => by omega) (fun p _ hp => (hk2 _ _ (by decide)).trans (hG p hp)) (fun q j g1 g2 => hk2 q j g1)
set_option maxHeartbeats 1000000 in
theorem c_goOn {I : Nat → Nat → Int32} {L : Nat → Nat → Int64} {R : Nat → Nat → Option Nat} (hR : aRf R) {s : jN} (hc : cRep I s) {r : jR} (hr : rRep I r) {ch : Nat → Nat} (hch : cgRep I s ch) {k : Nat} (hk : k + 1 < (jS s).length) {m : Nat} (hm : m < s.1) (hon : jOn s m (jB s k) = true) (hon1 : jOn s m (jB s (k + 1)) = true) {G : Nat → Int32} (hG : ∀ p, p < 6 → I 50 (k * 6 + p) = G p) {v : Int32} (hv : I 51 k = v) : aM mX0_goOn [.ref 49, .int (nI (k + 1)), .int (nI m)] (sh0, I, L, R) (fun ans h' => ans = none ∧ ∃ I', h' = (sh0, I', L, R) ∧ I' 51 (k + 1) = v ∧ (∀ p, p < 6 → I' 50 ((k + 1) * 6 + p) = jMu s r ch (k + 1) m (-1) (jMu s r ch k m 1 G) p) ∧ (∀ q j, q ≠ 40 → ¬ (q = 51 ∧ j = k + 1) → ¬ (q = 50 ∧ (k + 1) * 6 ≤ j ∧ j < (k + 1) * 6 + 6) → I' q j = I q j)) := by
  obtain ⟨hs, ho, h6, hS, hV⟩ := id hc
  have hn := ho.1
  have hSl := jS_len s
  refine aM_of plX0_goOn (Nat.le_of_ble_eq_true rfl) ?_
  refine aX_aload_n dX0_goOn_0 rfl ?_
  refine aX_get dX0_goOn_1 lfX0_15 s49 (f49_5 hR) ?_
  refine aX_iload_n dX0_goOn_4 rfl ?_
  refine aX_aload_n dX0_goOn_5 rfl ?_
  refine aX_get dX0_goOn_6 lfX0_15 s49 (f49_5 hR) ?_
  refine aX_iload_n dX0_goOn_9 rfl ?_
  refine aX_iconst (v := nI 1) dX0_goOn_10 (by decide) ?_
  refine nSub dX0_goOn_11 (by omega) ?_
  rw [Nat.add_sub_cancel]
  refine nIald (v := v) dX0_goOn_12 s51 (by first | omega | exact Nat.lt_of_le_of_lt (Nat.mod_le _ _) (by omega)) (by decide) (hv) ?_
  refine nIast dX0_goOn_13 s51 (by first | omega | exact Nat.lt_of_le_of_lt (Nat.mod_le _ _) (by omega)) (by decide) ?_
  refine aX_aload_n dX0_goOn_14 rfl ?_
  refine aX_get dX0_goOn_15 lfX0_9 s49 (f49_4 hR) ?_
  refine aX_iload_n dX0_goOn_18 rfl ?_
  refine aX_iconst (v := nI 1) dX0_goOn_19 (by decide) ?_
  refine nSub dX0_goOn_20 (by omega) ?_
  rw [Nat.add_sub_cancel]
  refine aX_bipush (v := nI 6) dX0_goOn_21 (by decide) ?_
  refine nMul dX0_goOn_23 ?_
  refine aX_aload_n dX0_goOn_24 rfl ?_
  refine aX_get dX0_goOn_25 lfX0_9 s49 (f49_4 hR) ?_
  refine aX_iload_n dX0_goOn_28 rfl ?_
  refine aX_bipush (v := nI 6) dX0_goOn_29 (by decide) ?_
  refine nMul dX0_goOn_31 ?_
  refine aX_bipush (v := nI 6) dX0_goOn_32 (by decide) ?_
  refine nCopyI (st := []) dX0_goOn_34 ⟨lyX0_64, wY1, wY2, wY3⟩ s50 s50 (by first | omega | exact Nat.lt_of_le_of_lt (Nat.mod_le _ _) (by omega)) (by first | omega | exact Nat.lt_of_le_of_lt (Nat.mod_le _ _) (by omega)) (by decide) (by decide) (by decide) (Nat.le_of_ble_eq_true rfl) ?_
  obtain ⟨I2, hI2⟩ : ∃ x, x = (aUr (aU I 51 (k + 1) v) 50 (va_cpy ((aU I 51 (k + 1) v) 50) ((aU I 51 (k + 1) v) 50) (k * 6) ((k + 1) * 6) 6)) := ⟨_, rfl⟩
  rw [← hI2]
  have hk2 : ∀ q j, ¬ (q = 51 ∧ j = k + 1) → ¬ (q = 50 ∧ (k + 1) * 6 ≤ j ∧ j < (k + 1) * 6 + 6) → I2 q j = I q j := fun q j g1 g2 => by
    rw [hI2]
    by_cases e : q = 50
    · subst e; rw [aUr_s, pk_cpy_out (by omega), aU_n (by omega)]
    · rw [show ∀ (f : Nat → Nat → Int32) g, aUr f 50 g q j = f q j from fun f g => congrFun (aUr_o e) j, aU_n (by omega)]
  have h51 : I2 51 (k + 1) = v := by rw [hI2, show ∀ (f : Nat → Nat → Int32) g, aUr f 50 g 51 (k + 1) = f 51 (k + 1) from fun f g => congrFun (aUr_o (by decide)) _, aU_s]
  have h50 : ∀ p, p < 6 → I2 50 ((k + 1) * 6 + p) = G p := fun p hp => by
    rw [hI2, aUr_s, pk_cpy_in (by omega) (by omega), aU_n (by omega), ← hG p hp]
    congr 1
    omega
  have hkp2 : hK 40 51 I I2 := fun q j _ _ h3 => hk2 q j (by omega) (by omega)
  have hc2 := cRep_hK hkp2 (by decide) hc
  have hr2 := rRep_hK hkp2 (by decide) hr
  have hch2 : cgRep I2 s ch := fun x hx => ⟨(hk2 42 x (by omega) (by omega)).trans (hch x hx).1, (hch x hx).2⟩
  refine aX_aload_n dX0_goOn_37 rfl ?_
  refine aX_iload_n dX0_goOn_38 rfl ?_
  refine aX_iload_n dX0_goOn_39 rfl ?_
  refine aX_iconst (v := nI 1) dX0_goOn_40 (by decide) ?_
  refine nSub dX0_goOn_41 (by omega) ?_
  rw [Nat.add_sub_cancel]
  refine aX_iload_n dX0_goOn_42 rfl ?_
  refine aX_iconst (v := nI 1) dX0_goOn_43 (by decide) ?_
  refine cV (As := [.int (nI (k + 1)), .int (nI (k)), .int (nI (m)), .int (nI (1))]) (st := []) dX0_goOn_44 kX0_goOn_70 s49 aEok0 rfl rfl (Nat.le_of_ble_eq_true rfl) (c_multiply hR hc2 hr2 hch2 (k := k + 1) (by omega) (pl := k) (by omega) hm hon h50) (fun r h' hq => ?_)
  obtain ⟨rfl, I3, rfl, h53, hk3⟩ := hq
  refine ⟨rfl, ?_⟩
  have hkp3 : hK 40 51 I2 I3 := fun q j _ _ h3 => hk3 q j (by omega) (by omega)
  have hc3 := cRep_hK hkp3 (by decide) hc2
  have hr3 := rRep_hK hkp3 (by decide) hr2
  have hch3 : cgRep I3 s ch := fun x hx => ⟨(hk3 42 x (by omega) (by omega)).trans (hch2 x hx).1, (hch x hx).2⟩
  refine aX_aload_n dX0_goOn_47 rfl ?_
  refine aX_iload_n dX0_goOn_48 rfl ?_
  refine aX_iload_n dX0_goOn_49 rfl ?_
  refine aX_iload_n dX0_goOn_50 rfl ?_
  refine aX_iconst (v := (-1)) dX0_goOn_51 (by decide) ?_
  refine cV (As := [.int (nI (k + 1)), .int (nI (k + 1)), .int (nI (m)), .int ((-1))]) (st := []) dX0_goOn_52 kX0_goOn_70 s49 aEok0 rfl rfl (Nat.le_of_ble_eq_true rfl) (c_multiply hR hc3 hr3 hch3 (k := k + 1) (by omega) (pl := k + 1) hk hm hon1 h53) (fun r h' hq => ?_)
  obtain ⟨rfl, I4, rfl, h54, hk4⟩ := hq
  refine ⟨rfl, ?_⟩
  exact rV dX0_goOn_55 rfl (⟨rfl, I4, rfl, (hk4 51 _ (by omega) (by omega)).trans ((hk3 51 _ (by omega) (by omega)).trans h51), h54, fun q j g1 g2 g3 => (hk4 q j g1 g3).trans ((hk3 q j g1 g3).trans (hk2 q j g2 g3))⟩)
set_option maxHeartbeats 1000000 in
theorem l_driftOf {I : Nat → Nat → Int32} {L : Nat → Nat → Int64} {R : Nat → Nat → Option Nat} (hR : aRf R) {s : jN} (hc : cRep I s) {k : Nat} (hk : k < (jS s).length) {G : Nat → Int32} (hG : ∀ p, p < 6 → I 50 (k * 6 + p) = G p) {v : Nat} (hv : I 51 k = nI v) (hvl : v < (jS s).length) : ∀ (k9 i : Nat), i ≤ 6 → 6 - i = k9 → aX mX0_driftOf aE0 (sh0, I, L, R) 4 [(0, .ref 49), (1, .int (nI (k))), (2, .int (jLs G i)), (3, .int (nI (i)))] [] 0 0 (fun ans h' => h' = (sh0, I, L, R) ∧ ans = some (.int (jLs G 6 - nI 10000 * (nI (jBk s k) - nI (jBk s v))))) := by
  intro k9
  induction k9 using Nat.strongRecOn with
  | _ k9 ih =>
    intro i hi hk9  
    obtain ⟨hs, ho, h6, hS, hV⟩ := id hc
    have hn := ho.1
    have hSl := jS_len s
    obtain ⟨q, hq, hqb⟩ := jQ hk
    obtain ⟨q1, hq1, hqb1⟩ := jQ hvl
    refine aX_iload_n dX0_driftOf_4 rfl ?_
    refine aX_bipush (v := nI 6) dX0_driftOf_5 (by decide) ?_
    refine nGe (tgt := 36) dX0_driftOf_7 (by decide) (by first | omega | exact Nat.lt_of_le_of_lt (Nat.mod_le _ _) (by omega)) (by first | omega | exact Nat.lt_of_le_of_lt (Nat.mod_le _ _) (by omega)) (fun c1 => ?_) (fun c1 => ?_)
    · refine aX_iload_n dX0_driftOf_36 rfl ?_
      refine aX_sipush (v := nI 10000) dX0_driftOf_37 (by decide) ?_
      refine aX_aload_n dX0_driftOf_40 rfl ?_
      refine aX_get dX0_driftOf_41 lfX0_21 s49 (f49_0 hR) ?_
      refine aX_iload_n dX0_driftOf_44 rfl ?_
      refine cVp (As := [.int (nI (k))]) (st := [.int (nI (10000)), .int (jLs G i)]) (v := .int (nI (s.2.1 (jBase s q.1)))) dX0_driftOf_45 kX0_driftOf_99 s16 aEok0 rfl rfl (Nat.le_of_ble_eq_true rfl) (c_baseKey hR hc hq) ?_
      refine aX_aload_n dX0_driftOf_48 rfl ?_
      refine aX_get dX0_driftOf_49 lfX0_21 s49 (f49_0 hR) ?_
      refine aX_aload_n dX0_driftOf_52 rfl ?_
      refine aX_get dX0_driftOf_53 lfX0_15 s49 (f49_5 hR) ?_
      refine aX_iload_n dX0_driftOf_56 rfl ?_
      refine nIald (v := nI (v)) dX0_driftOf_57 s51 (by first | omega | exact Nat.lt_of_le_of_lt (Nat.mod_le _ _) (by omega)) (by decide) (hv) ?_
      refine cVp (As := [.int (nI (v))]) (st := [.int (nI (s.2.1 (jBase s q.1))), .int (nI (10000)), .int (jLs G i)]) (v := .int (nI (s.2.1 (jBase s q1.1)))) dX0_driftOf_58 kX0_driftOf_99 s16 aEok0 rfl rfl (Nat.le_of_ble_eq_true rfl) (c_baseKey hR hc hq1) ?_
      refine aX_isub dX0_driftOf_61 ?_
      refine aX_imul dX0_driftOf_62 ?_
      refine aX_isub dX0_driftOf_63 ?_
      exact rI dX0_driftOf_64 rfl (⟨rfl, by rw [show i = 6 by omega, hqb, hqb1]; rfl⟩)
    · refine aX_iload_n dX0_driftOf_10 rfl ?_
      refine aX_aload_n dX0_driftOf_11 rfl ?_
      refine aX_get dX0_driftOf_12 lfX0_9 s49 (f49_4 hR) ?_
      refine aX_iload_n dX0_driftOf_15 rfl ?_
      refine aX_bipush (v := nI 6) dX0_driftOf_16 (by decide) ?_
      refine nMul dX0_driftOf_18 ?_
      refine aX_iload_n dX0_driftOf_19 rfl ?_
      refine nAdd dX0_driftOf_20 ?_
      refine nIald (v := G i) dX0_driftOf_21 s50 (by first | omega | exact Nat.lt_of_le_of_lt (Nat.mod_le _ _) (by omega)) (by decide) (hG i (by omega)) ?_
      refine aX_gets (i := 3) dX0_driftOf_22 rfl (Or.inr lgX0_96) ?_
      refine aX_iload_n dX0_driftOf_25 rfl ?_
      refine nEld dX0_driftOf_26 rfl (by first | omega | exact Nat.lt_of_le_of_lt (Nat.mod_le _ _) (by omega)) (by decide) (rfl) ?_
      refine aX_imul dX0_driftOf_27 ?_
      refine aX_iadd dX0_driftOf_28 ?_
      refine aX_istore_n (lv' := [(0, .ref 49), (1, .int (nI (k))), (2, .int ((jLs G i) + ((G i) * (jLg i)))), (3, .int (nI (i)))]) dX0_driftOf_29 (by decide) rfl ?_
      refine nInc (lv' := [(0, .ref 49), (1, .int (nI (k))), (2, .int ((jLs G i) + ((G i) * (jLg i)))), (3, .int (nI (i + 1)))]) dX0_driftOf_30 rfl rfl (by decide) rfl ?_
      refine aX_goto (tgt := 4) dX0_driftOf_33 (by decide) ?_
      exact ih (6 - (i + 1)) (by omega) (i + 1) (by omega) rfl
set_option maxHeartbeats 1000000 in
theorem c_driftOf {I : Nat → Nat → Int32} {L : Nat → Nat → Int64} {R : Nat → Nat → Option Nat} (hR : aRf R) {s : jN} (hc : cRep I s) {k : Nat} (hk : k < (jS s).length) {G : Nat → Int32} (hG : ∀ p, p < 6 → I 50 (k * 6 + p) = G p) {v : Nat} (hv : I 51 k = nI v) (hvl : v < (jS s).length) : aMp mX0_driftOf [.ref 49, .int (nI k)] (sh0, I, L, R) (.int (jLs G 6 - nI 10000 * (nI (jBk s k) - nI (jBk s v)))) := by
  refine aM_of plX0_driftOf (Nat.le_of_ble_eq_true rfl) ?_
  refine aX_iconst (v := nI 0) dX0_driftOf_0 (by decide) ?_
  refine aX_istore_n (lv' := [(0, .ref 49), (1, .int (nI (k))), (2, .int (nI (0)))]) dX0_driftOf_1 (by decide) rfl ?_
  refine aX_iconst (v := nI 0) dX0_driftOf_2 (by decide) ?_
  refine aX_istore_n (lv' := [(0, .ref 49), (1, .int (nI (k))), (2, .int (nI (0))), (3, .int (nI (0)))]) dX0_driftOf_3 (by decide) rfl ?_
  exact l_driftOf hR hc hk hG hv hvl _ 0 (by omega) rfl
