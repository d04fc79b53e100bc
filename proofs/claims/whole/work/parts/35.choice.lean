section ACC
variable {md : aMd} {E : aE} {sh : List (Nat × Nat)} {I : Nat → Nat → Int32} {L : Nat → Nat → Int64} {R : Nat → Nat → Option Nat} {pc : Nat} {lv : List (Nat × Value)} {st : List Value} {bc bs : Nat} {Q : Option Value → aH → Prop}
theorem nCopyI {idx q0 q1 n0 n1 sp dp n : Nat} (hd : decode md.2.1 pc = .ok (.invokestatic idx, 3)) (hw : aWc md.1.cls idx) (hs0 : aSh (sh, I, L, R) q0 = some (0, n0)) (hs1 : aSh (sh, I, L, R) q1 = some (0, n1)) (b1 : sp + n ≤ n0) (b2 : dp + n ≤ n1) (m0 : n0 < 2 ^ 31) (m1 : n1 < 2 ^ 31) (hf : 1 ≤ md.2.2.2.2.frames) (hlo : (st.map fun v => v.category).sum + 18 ≤ md.2.2.2.2.locals) (k : aX md E (sh, aUr I q1 (va_cpy (I q0) (I q1) sp dp n), L, R) (pc + 3) lv st bc bs Q) : aX md E (sh, I, L, R) pc lv (.int (nI n) :: .int (nI dp) :: .ref q1 :: .int (nI sp) :: .ref q0 :: st) bc bs Q :=
  aX_copyi hd hw hs0 hs1 (by rw [Int32.not_lt]; exact nI_pos' (by omega)) (by rw [Int32.not_lt]; exact nI_pos' (by omega)) (by rw [Int32.not_lt]; exact nI_pos' (by omega)) (by rw [nI_clamp (by omega), nI_clamp (by omega)]; exact b1) (by rw [nI_clamp (by omega), nI_clamp (by omega)]; exact b2) hf hlo (by rw [nI_clamp (by omega), nI_clamp (by omega), nI_clamp (by omega)]; exact k)
theorem nCopyL {idx q0 q1 n0 n1 sp dp n : Nat} (hd : decode md.2.1 pc = .ok (.invokestatic idx, 3)) (hw : aWc md.1.cls idx) (hs0 : aSh (sh, I, L, R) q0 = some (3, n0)) (hs1 : aSh (sh, I, L, R) q1 = some (3, n1)) (b1 : sp + n ≤ n0) (b2 : dp + n ≤ n1) (m0 : n0 < 2 ^ 31) (m1 : n1 < 2 ^ 31) (hf : 1 ≤ md.2.2.2.2.frames) (hlo : (st.map fun v => v.category).sum + 18 ≤ md.2.2.2.2.locals) (k : aX md E (sh, I, aUr L q1 (va_cpy (L q0) (L q1) sp dp n), R) (pc + 3) lv st bc bs Q) : aX md E (sh, I, L, R) pc lv (.int (nI n) :: .int (nI dp) :: .ref q1 :: .int (nI sp) :: .ref q0 :: st) bc bs Q :=
  aX_copyl hd hw hs0 hs1 (by rw [Int32.not_lt]; exact nI_pos' (by omega)) (by rw [Int32.not_lt]; exact nI_pos' (by omega)) (by rw [Int32.not_lt]; exact nI_pos' (by omega)) (by rw [nI_clamp (by omega), nI_clamp (by omega)]; exact b1) (by rw [nI_clamp (by omega), nI_clamp (by omega)]; exact b2) hf hlo (by rw [nI_clamp (by omega), nI_clamp (by omega), nI_clamp (by omega)]; exact k)
end ACC
theorem jChs_lt {s : jN} {r : jR} {w : jW} (hp : ∀ k, k < (jS s).length → 0 < jCn s r k) : ∀ k, k < (jS s).length → jChs s r w k < jCn s r k
  | 0, h => jArg_lt _ _ (hp 0 h)
  | k + 1, h => jMin_lt _ _ (hp (k + 1) h)
theorem jArg_no {f : Nat → Int64} {n : Nat} (h : f (jArg f n) ≤ f n) : jArg f (n + 1) = jArg f n := by
  show (if f n < f (jArg f n) then _ else _) = _
  rw [if_neg]; rw [Int64.not_lt]; exact h
theorem jArg_yes {f : Nat → Int64} {n : Nat} (h : ¬ f (jArg f n) ≤ f n) : jArg f (n + 1) = n := by
  show (if f n < f (jArg f n) then _ else _) = _
  rw [if_pos (Int64.not_le.mp h)]
set_option maxHeartbeats 1000000 in
theorem l_follow2 {I : Nat → Nat → Int32} {L : Nat → Nat → Int64} {R : Nat → Nat → Option Nat} (hR : aRf R) {s : jN} (hc : cRep I s) {r : jR} {w : jW} (h0 : 0 < (jS s).length) (hp : ∀ k, k < (jS s).length → 0 < jCn s r k) (hct : ctRep I s r) (hL : ∀ rd, rd < jCn s r 0 → L 44 rd = jCost s r w ((jS s).length - 1) rd) (hfo : ∀ k rd, k + 1 < (jS s).length → rd < jCn s r k → I 46 (k * 64 + rd) = nI (jFol s r w k rd)) : ∀ (k9 k : Nat), k ≤ (jS s).length → ((jS s).length) - k = k9 → ∀ (v : Int32) (I1 : Nat → Nat → Int32), (k < (jS s).length → v = nI (jChs s r w k)) → (∀ j, j < k → I1 42 j = nI (jChs s r w j)) → hK 42 42 I I1 → aX mX1_followLeast aE0 (sh0, I1, L, R) 48 [(0, .ref 41), (1, .int (v)), (2, .long (jCost s r w ((jS s).length - 1) (jChs s r w 0))), (4, .int (nI (k)))] [] 0 0 (fun ans h' => ans = some (.long (jCost s r w ((jS s).length - 1) (jChs s r w 0))) ∧ ∃ I', h' = (sh0, I', L, R) ∧ (∀ k, k < (jS s).length → I' 42 k = nI (jChs s r w k)) ∧ hK 42 42 I I') := by
  intro k9
  induction k9 using Nat.strongRecOn with
  | _ k9 ih =>
    intro k hi hk9 v  I1  hv hdn hkp
    obtain ⟨hs, ho, h6, hS, hV⟩ := id hc
    have hn := ho.1
    have hSl := jS_len s
    have hl1 := jCn_le (s := s) (r := r) (k := 0)
    refine aX_iload dX1_followLeast_48 rfl ?_
    refine aX_aload_n dX1_followLeast_50 rfl ?_
    refine aX_get dX1_followLeast_51 lfX1_34 s41 (f41_0 hR) ?_
    refine aX_get (v := .int (nI ((jS s).length))) dX1_followLeast_54 lfX1_48 s16 (congrArg Value.int ((hkp 16 5 (by omega) (by omega) (by omega)).trans hS.1)) ?_
    refine nGe (tgt := 87) dX1_followLeast_57 (by decide) (by first | omega | exact Nat.lt_of_le_of_lt (Nat.mod_le _ _) (by omega)) (by first | omega | exact Nat.lt_of_le_of_lt (Nat.mod_le _ _) (by omega)) (fun c1 => ?_) (fun c1 => ?_)
    · refine aX_lload_n dX1_followLeast_87 rfl ?_
      exact rL dX1_followLeast_88 rfl (⟨rfl, I1, rfl, fun j hj => hdn j (by omega), hkp⟩)
    · have hv1 := hv c1
      subst hv1
      have hcl := jChs_lt (w := w) hp k c1
      have hcn := jCn_le (s := s) (r := r) (k := k)
      refine aX_aload_n dX1_followLeast_60 rfl ?_
      refine aX_get dX1_followLeast_61 lfX1_9 s41 (f41_3 hR) ?_
      refine aX_iload dX1_followLeast_64 rfl ?_
      refine aX_iload_n dX1_followLeast_66 rfl ?_
      refine nIast dX1_followLeast_67 s42 (by first | omega | exact Nat.lt_of_le_of_lt (Nat.mod_le _ _) (by omega)) (by decide) ?_
      refine aX_aload_n dX1_followLeast_68 rfl ?_
      refine aX_get dX1_followLeast_69 lfX1_25 s41 (f41_7 hR) ?_
      refine aX_iload dX1_followLeast_72 rfl ?_
      refine aX_bipush (v := nI 64) dX1_followLeast_74 (by decide) ?_
      refine nMul dX1_followLeast_76 ?_
      refine aX_iload_n dX1_followLeast_77 rfl ?_
      refine nAdd dX1_followLeast_78 ?_
      refine nIald (v := (aU I1 42 k (nI (jChs s r w k))) 46 ((k * 64) + (jChs s r w k))) dX1_followLeast_79 s46 (by first | omega | exact Nat.lt_of_le_of_lt (Nat.mod_le _ _) (by omega)) (by decide) (rfl) ?_
      refine aX_istore_n (lv' := [(0, .ref 41), (1, .int ((aU I1 42 k (nI (jChs s r w k))) 46 ((k * 64) + (jChs s r w k)))), (2, .long (jCost s r w ((jS s).length - 1) (jChs s r w 0))), (4, .int (nI (k)))]) dX1_followLeast_80 (by decide) rfl ?_
      refine nInc (lv' := [(0, .ref 41), (1, .int ((aU I1 42 k (nI (jChs s r w k))) 46 ((k * 64) + (jChs s r w k)))), (2, .long (jCost s r w ((jS s).length - 1) (jChs s r w 0))), (4, .int (nI (k + 1)))]) dX1_followLeast_81 rfl rfl (by decide) rfl ?_
      refine aX_goto (tgt := 48) dX1_followLeast_84 (by decide) ?_
      exact ih ((jS s).length - (k + 1)) (by omega) (k + 1) (by omega) rfl _ _ (fun hk1 => by rw [aU_n (by omega)]; exact (hkp 46 _ (by omega) (by omega) (by omega)).trans (hfo k _ hk1 hcl)) (fun j hj => by
        by_cases e : j = k
        · subst e; rw [aU_s]
        · rw [aU_n (by omega)]; exact hdn j (by omega)) (hK_set hkp (by decide) (by decide))
set_option maxHeartbeats 1000000 in
theorem l_follow1 {I : Nat → Nat → Int32} {L : Nat → Nat → Int64} {R : Nat → Nat → Option Nat} (hR : aRf R) {s : jN} (hc : cRep I s) {r : jR} {w : jW} (h0 : 0 < (jS s).length) (hp : ∀ k, k < (jS s).length → 0 < jCn s r k) (hct : ctRep I s r) (hL : ∀ rd, rd < jCn s r 0 → L 44 rd = jCost s r w ((jS s).length - 1) rd) (hfo : ∀ k rd, k + 1 < (jS s).length → rd < jCn s r k → I 46 (k * 64 + rd) = nI (jFol s r w k rd)) : ∀ (k9 i : Nat), i ≤ jCn s r 0 → (jCn s r 0) - i = k9 → 1 ≤ i → aX mX1_followLeast aE0 (sh0, I, L, R) 4 [(0, .ref 41), (1, .int (nI (jArg (jCost s r w ((jS s).length - 1)) i))), (2, .int (nI (i)))] [] 0 0 (fun ans h' => ans = some (.long (jCost s r w ((jS s).length - 1) (jChs s r w 0))) ∧ ∃ I', h' = (sh0, I', L, R) ∧ (∀ k, k < (jS s).length → I' 42 k = nI (jChs s r w k)) ∧ hK 42 42 I I') := by
  intro k9
  induction k9 using Nat.strongRecOn with
  | _ k9 ih =>
    intro i hi hk9  hi1
    obtain ⟨hs, ho, h6, hS, hV⟩ := id hc
    have hn := ho.1
    have hSl := jS_len s
    have hl1 := jCn_le (s := s) (r := r) (k := 0)
    have hal := jArg_lt (jCost s r w ((jS s).length - 1)) i (by omega)
    have hp0 := hp 0 h0
    have hch := jChs_lt (w := w) hp 0 h0
    refine aX_iload_n dX1_followLeast_4 rfl ?_
    refine aX_aload_n dX1_followLeast_5 rfl ?_
    refine aX_get dX1_followLeast_6 lfX1_15 s41 (f41_4 hR) ?_
    refine aX_iconst (v := nI 0) dX1_followLeast_9 (by decide) ?_
    refine nIald (v := nI (jCn s r 0)) dX1_followLeast_10 s43 (by first | omega | exact Nat.lt_of_le_of_lt (Nat.mod_le _ _) (by omega)) (by decide) (hct 0 h0) ?_
    refine nGe (tgt := 38) dX1_followLeast_11 (by decide) (by first | omega | exact Nat.lt_of_le_of_lt (Nat.mod_le _ _) (by omega)) (by first | omega | exact Nat.lt_of_le_of_lt (Nat.mod_le _ _) (by omega)) (fun c1 => ?_) (fun c1 => ?_)
    · obtain rfl : i = jCn s r 0 := by omega
      refine aX_lv (lv' := [(0, .ref 41), (1, .int (nI (jChs s r w 0))), (2, .int (nI (jCn s r 0)))]) [0, 1, 2] rfl ?_
      refine aX_aload_n dX1_followLeast_38 rfl ?_
      refine aX_get dX1_followLeast_39 lfX1_18 s41 (f41_5 hR) ?_
      refine aX_iload_n dX1_followLeast_42 rfl ?_
      refine nLald (v := (jCost s r w ((jS s).length - 1)) (jChs s r w 0)) dX1_followLeast_43 s44 (by first | omega | exact Nat.lt_of_le_of_lt (Nat.mod_le _ _) (by omega)) (by decide) (hL _ (by omega)) ?_
      refine aX_lstore_n (lv' := [(0, .ref 41), (1, .int (nI (jChs s r w 0))), (2, .long ((jCost s r w ((jS s).length - 1)) (jChs s r w 0)))]) dX1_followLeast_44 (by decide) rfl ?_
      refine aX_iconst (v := nI 0) dX1_followLeast_45 (by decide) ?_
      refine aX_istore (lv' := [(0, .ref 41), (1, .int (nI (jChs s r w 0))), (2, .long ((jCost s r w ((jS s).length - 1)) (jChs s r w 0))), (4, .int (nI (0)))]) dX1_followLeast_46 (by decide) rfl ?_
      exact l_follow2 hR hc h0 hp hct hL hfo _ 0 (by omega) rfl _ I (fun _ => rfl) (fun j hj => by omega) hK_refl
    · refine aX_aload_n dX1_followLeast_14 rfl ?_
      refine aX_get dX1_followLeast_15 lfX1_18 s41 (f41_5 hR) ?_
      refine aX_iload_n dX1_followLeast_18 rfl ?_
      refine nLald (v := (jCost s r w ((jS s).length - 1)) (i)) dX1_followLeast_19 s44 (by first | omega | exact Nat.lt_of_le_of_lt (Nat.mod_le _ _) (by omega)) (by decide) (hL _ (by omega)) ?_
      refine aX_aload_n dX1_followLeast_20 rfl ?_
      refine aX_get dX1_followLeast_21 lfX1_18 s41 (f41_5 hR) ?_
      refine aX_iload_n dX1_followLeast_24 rfl ?_
      refine nLald (v := (jCost s r w ((jS s).length - 1)) (jArg (jCost s r w ((jS s).length - 1)) i)) dX1_followLeast_25 s44 (by first | omega | exact Nat.lt_of_le_of_lt (Nat.mod_le _ _) (by omega)) (by decide) (hL _ (by omega)) ?_
      refine aX_lcmp dX1_followLeast_26 ?_
      refine lIf_ge (tgt := 32) dX1_followLeast_27 (by decide) (fun c2 => ?_) (fun c2 => ?_)
      · refine nInc (lv' := [(0, .ref 41), (1, .int (nI (jArg (jCost s r w ((jS s).length - 1)) i))), (2, .int (nI (i + 1)))]) dX1_followLeast_32 rfl rfl (by decide) rfl ?_
        refine aX_goto (tgt := 4) dX1_followLeast_35 (by decide) ?_
        have hj : jArg (jCost s r w ((jS s).length - 1)) (i + 1) = jArg (jCost s r w ((jS s).length - 1)) i := jArg_no (by assumption)
        have z := ih (jCn s r 0 - (i + 1)) (by omega) (i + 1) (by omega) rfl (by omega)
        rw [hj] at z
        exact z
      · refine aX_iload_n dX1_followLeast_30 rfl ?_
        refine aX_istore_n (lv' := [(0, .ref 41), (1, .int (nI (i))), (2, .int (nI (i)))]) dX1_followLeast_31 (by decide) rfl ?_
        refine nInc (lv' := [(0, .ref 41), (1, .int (nI (i))), (2, .int (nI (i + 1)))]) dX1_followLeast_32 rfl rfl (by decide) rfl ?_
        refine aX_goto (tgt := 4) dX1_followLeast_35 (by decide) ?_
        have hj : jArg (jCost s r w ((jS s).length - 1)) (i + 1) = i := jArg_yes (by assumption)
        have z := ih (jCn s r 0 - (i + 1)) (by omega) (i + 1) (by omega) rfl (by omega)
        rw [hj] at z
        exact z
set_option maxHeartbeats 1000000 in
theorem c_followLeast {I : Nat → Nat → Int32} {L : Nat → Nat → Int64} {R : Nat → Nat → Option Nat} (hR : aRf R) {s : jN} (hc : cRep I s) {r : jR} {w : jW} (h0 : 0 < (jS s).length) (hp : ∀ k, k < (jS s).length → 0 < jCn s r k) (hct : ctRep I s r) (hL : ∀ rd, rd < jCn s r 0 → L 44 rd = jCost s r w ((jS s).length - 1) rd) (hfo : ∀ k rd, k + 1 < (jS s).length → rd < jCn s r k → I 46 (k * 64 + rd) = nI (jFol s r w k rd)) : aM mX1_followLeast [.ref 41] (sh0, I, L, R) (fun ans h' => ans = some (.long (jCost s r w ((jS s).length - 1) (jChs s r w 0))) ∧ ∃ I', h' = (sh0, I', L, R) ∧ (∀ k, k < (jS s).length → I' 42 k = nI (jChs s r w k)) ∧ hK 42 42 I I') := by
  refine aM_of plX1_followLeast (Nat.le_of_ble_eq_true rfl) ?_
  refine aX_iconst (v := nI 0) dX1_followLeast_0 (by decide) ?_
  refine aX_istore_n (lv' := [(0, .ref 41), (1, .int (nI (0)))]) dX1_followLeast_1 (by decide) rfl ?_
  refine aX_iconst (v := nI 1) dX1_followLeast_2 (by decide) ?_
  refine aX_istore_n (lv' := [(0, .ref 41), (1, .int (nI (0))), (2, .int (nI (1)))]) dX1_followLeast_3 (by decide) rfl ?_
  have hp0 := hp 0 h0
  have e0 : jArg (jCost s r w ((jS s).length - 1)) 1 = 0 := jArg_no (n := 0) (Int64.le_refl _)
  have z := l_follow1 hR hc h0 hp hct hL hfo _ 1 (by omega) rfl (Nat.le_refl _)
  rw [e0] at z
  exact z
/-- what stands in the class's rows when the sets from c on are joined -/
def mkIn (I1 : Nat → Nat → Int32) (L1 : Nat → Nat → Int64) (s : jN) (r : jR) (w : jW) (c : Nat) : Prop := (∀ rd, c < (jS s).length → rd < jCn s r c → L1 44 rd = jCost s r w ((jS s).length - 1 - c) rd ∧ L1 45 rd = jCost s r w ((jS s).length - 1 - c) rd) ∧ (∀ k rd, c ≤ k → k + 1 < (jS s).length → rd < jCn s r k → I1 46 (k * 64 + rd) = nI (jFol s r w k rd))
set_option maxHeartbeats 1000000 in
theorem l_make {I : Nat → Nat → Int32} {L : Nat → Nat → Int64} {R : Nat → Nat → Option Nat} (hR : aRf R) {s : jN} (hc : cRep I s) {r : jR} (hr : rRep I r) {w : jW} (hw : wRep I w) (h0 : 0 < (jS s).length) (hp : ∀ k, k < (jS s).length → 0 < jCn s r k) (hns : jNs s r w) : ∀ (k9 c : Nat), c ≤ (jS s).length → c = k9 → ∀ (I1 : Nat → Nat → Int32) (L1 : Nat → Nat → Int64), mkIn I1 L1 s r w c → ctRep I1 s r → hK 40 48 I I1 → lK 44 45 L L1 → aX mX1_make aE0 (sh0, I1, L1, R) 14 [(0, .ref 41), (1, .int (jDn c))] [] 0 0 (fun ans h' => ans = some (.long (jCost s r w ((jS s).length - 1) (jChs s r w 0))) ∧ ∃ I' L', h' = (sh0, I', L', R) ∧ (∀ k, k < (jS s).length → I' 42 k = nI (jChs s r w k)) ∧ hK 40 48 I I' ∧ lK 44 45 L L') := by
  intro k9
  induction k9 using Nat.strongRecOn with
  | _ k9 ih =>
    intro c hi hk9 I1  L1  hin hct hkp hlp
    obtain ⟨hs, ho, h6, hS, hV⟩ := id hc
    have hn := ho.1
    have hSl := jS_len s
    have hc1 := cRep_hK hkp (by decide) hc
    have hr1 := rRep_hK hkp (by decide) hr
    have hw1 := wRep_hK hkp (by decide) hw
    cases c with
    | zero =>
      refine aX_iload_n dX1_make_14 rfl ?_
      refine aX_if_lt (tgt := 62) dX1_make_15 (by decide) (fun c1 => ?_) (fun c1 => ?_)
      · refine aX_aload_n dX1_make_62 rfl ?_
        refine cV (As := []) (st := []) dX1_make_63 kX1_make_67 s41 aEok0 rfl rfl (Nat.le_of_ble_eq_true rfl) (c_followLeast hR hc1 h0 hp hct (fun rd hrd => (hin.1 rd h0 hrd).1) (fun k rd h1 h2 => hin.2 k rd (Nat.zero_le _) h1 h2)) (fun r h' hq => ?_)
        obtain ⟨rfl, I4, rfl, hch, hk4⟩ := hq
        refine ⟨rfl, ?_⟩
        exact rL dX1_make_66 rfl (⟨rfl, I4, L1, rfl, hch, hK_trans hkp (hK_mono (by decide) (by decide) hk4), hlp⟩)
      · exact absurd (by decide) c1
    | succ c =>
      refine aX_iload_n dX1_make_14 rfl ?_
      refine aX_if_lt (tgt := 62) dX1_make_15 (by decide) (fun c2 => ?_) (fun c2 => ?_)
      · exact absurd c2 (nI_pos (by omega))
      · refine aX_aload_n dX1_make_18 rfl ?_
        refine aX_iload_n dX1_make_19 rfl ?_
        refine cV (As := [.int (nI (c))]) (st := []) dX1_make_20 kX1_make_54 s41 aEok0 rfl rfl (Nat.le_of_ble_eq_true rfl) (c_weigh hR hc1 hr1 hw1 (by omega) hct) (fun r h' hq => ?_)
        obtain ⟨rfl, I2, L2, rfl, hL2, hk2, hl2⟩ := hq
        refine ⟨rfl, ?_⟩
        have hkp2 : hK 40 48 I I2 := hK_trans hkp (hK_mono (by decide) (by decide) hk2)
        have hlp2 : lK 44 45 L L2 := lK_trans hlp (lK_mono (by decide) (by decide) hl2)
        have hc2 := cRep_hK hkp2 (by decide) hc
        have hr2 := rRep_hK hkp2 (by decide) hr
        have hw2 := wRep_hK hkp2 (by decide) hw
        have hct2 : ctRep I2 s r := fun x hx => (hk2 43 x (by omega) (by omega) (by omega)).trans (hct x hx)
        have hcn := jCn_le (s := s) (r := r) (k := c)
        refine aX_iload_n dX1_make_23 rfl ?_
        refine aX_iconst (v := nI 1) dX1_make_24 (by decide) ?_
        refine nAdd dX1_make_25 ?_
        refine aX_aload_n dX1_make_26 rfl ?_
        refine aX_get dX1_make_27 lfX1_34 s41 (f41_0 hR) ?_
        refine aX_get (v := .int (nI ((jS s).length))) dX1_make_30 lfX1_48 s16 (congrArg Value.int (hc2.2.2.2.1.1)) ?_
        refine nGe (tgt := 41) dX1_make_33 (by decide) (by first | omega | exact Nat.lt_of_le_of_lt (Nat.mod_le _ _) (by omega)) (by first | omega | exact Nat.lt_of_le_of_lt (Nat.mod_le _ _) (by omega)) (fun c3 => ?_) (fun c3 => ?_)
        · refine aX_aload_n dX1_make_41 rfl ?_
          refine aX_get dX1_make_42 lfX1_18 s41 (f41_5 hR) ?_
          refine aX_iconst (v := nI 0) dX1_make_45 (by decide) ?_
          refine aX_aload_n dX1_make_46 rfl ?_
          refine aX_get dX1_make_47 lfX1_22 s41 (f41_6 hR) ?_
          refine aX_iconst (v := nI 0) dX1_make_50 (by decide) ?_
          refine aX_bipush (v := nI 64) dX1_make_51 (by decide) ?_
          refine nCopyL (st := []) dX1_make_53 ⟨lyX1_61, wY1, wY2, wY3⟩ s44 s45 (by first | omega | exact Nat.lt_of_le_of_lt (Nat.mod_le _ _) (by omega)) (by first | omega | exact Nat.lt_of_le_of_lt (Nat.mod_le _ _) (by omega)) (by decide) (by decide) (by decide) (Nat.le_of_ble_eq_true rfl) ?_
          have hn9 : (jS s).length - 1 - c = 0 := by omega
          have hcc : (jS s).length - 1 = c := by omega
          have hm2 : ∀ rd, rd < jCn s r c → L2 44 rd = jCost s r w ((jS s).length - 1 - c) rd := fun rd hrd => by
            rw [hL2 rd hrd, hn9]
            show _ = jAh s r w ((jS s).length - 1) rd
            rw [hcc]
          have hf2 : ∀ k rd, c ≤ k → k + 1 < (jS s).length → rd < jCn s r k → I2 46 (k * 64 + rd) = nI (jFol s r w k rd) := fun k rd h1 h2 h3 => by omega
          refine aX_iinc (v := (nI (c)) + (-1)) (lv' := [(0, .ref 41), (1, .int ((nI (c)) + (-1)))]) dX1_make_56 rfl rfl (by decide) rfl ?_
          refine aX_goto (tgt := 14) dX1_make_59 (by decide) ?_
          refine aX_lv (lv' := [(0, .ref 41), (1, .int (jDn c))]) [0, 1] (by rw [← jDn_dec]; rfl) ?_
          exact ih c (by omega) c (by omega) rfl I2 _ ⟨fun rd _ hrd => ⟨by rw [show aUr L2 45 _ 44 rd = L2 44 rd from congrFun (aUr_o (by decide)) rd]; exact hm2 rd hrd, by rw [aUr_s, pk_cpy_in (Nat.zero_le _) (by omega), Nat.zero_add, Nat.sub_zero]; exact hm2 rd hrd⟩, hf2⟩ hct2 hkp2 (fun q j hq => by rw [show aUr L2 45 _ q j = L2 q j from congrFun (aUr_o (by omega)) j]; exact hlp2 q j hq)
        · refine aX_aload_n dX1_make_36 rfl ?_
          refine aX_iload_n dX1_make_37 rfl ?_
          refine cV (As := [.int (nI (c))]) (st := []) dX1_make_38 kX1_make_58 s41 aEok0 rfl rfl (Nat.le_of_ble_eq_true rfl) (c_joinNext hR hc2 hr2 hw2 (by omega) hct2 (f := jCost s r w ((jS s).length - 1 - (c + 1))) (fun o ho => (hl2 45 o (by omega)).trans (hin.1 o (by omega) ho).2) (fun rd o h1 h2 => hns c rd o (by omega) h1 h2)) (fun r h' hq => ?_)
          obtain ⟨rfl, I3, L3, rfl, hd3, hk3, hl3⟩ := hq
          refine ⟨rfl, ?_⟩
          have hkp3 : hK 40 48 I I3 := hK_trans hkp2 (fun q j h1 h2 h3 => hk3 q j h2 h1 (by omega) (by omega) (by omega) (by omega))
          have hlp3 : lK 44 45 L L3 := lK_trans hlp2 (lK_mono (by decide) (by decide) hl3)
          have hct3 : ctRep I3 s r := fun x hx => (hk3 43 x (by omega) (by omega) (by omega) (by omega) (by omega) (by omega)).trans (hct2 x hx)
          refine aX_aload_n dX1_make_41 rfl ?_
          refine aX_get dX1_make_42 lfX1_18 s41 (f41_5 hR) ?_
          refine aX_iconst (v := nI 0) dX1_make_45 (by decide) ?_
          refine aX_aload_n dX1_make_46 rfl ?_
          refine aX_get dX1_make_47 lfX1_22 s41 (f41_6 hR) ?_
          refine aX_iconst (v := nI 0) dX1_make_50 (by decide) ?_
          refine aX_bipush (v := nI 64) dX1_make_51 (by decide) ?_
          refine nCopyL (st := []) dX1_make_53 ⟨lyX1_61, wY1, wY2, wY3⟩ s44 s45 (by first | omega | exact Nat.lt_of_le_of_lt (Nat.mod_le _ _) (by omega)) (by first | omega | exact Nat.lt_of_le_of_lt (Nat.mod_le _ _) (by omega)) (by decide) (by decide) (by decide) (Nat.le_of_ble_eq_true rfl) ?_
          have hn9 : (jS s).length - 1 - c = ((jS s).length - 1 - (c + 1)) + 1 := by omega
          have hcc : (jS s).length - 1 - ((jS s).length - 1 - (c + 1) + 1) = c := by omega
          have hm3 : ∀ rd, rd < jCn s r c → L3 44 rd = jCost s r w ((jS s).length - 1 - c) rd := fun rd hrd => by
            rw [(hd3 rd hrd).1, hL2 rd hrd, hn9]
            show _ = jAh s r w ((jS s).length - 1 - ((jS s).length - 1 - (c + 1) + 1)) rd + _
            rw [hcc]
          have hf3 : ∀ k rd, c ≤ k → k + 1 < (jS s).length → rd < jCn s r k → I3 46 (k * 64 + rd) = nI (jFol s r w k rd) := fun k rd h1 h2 h3 => by
            have hck := jCn_le (s := s) (r := r) (k := k)
            by_cases e : k = c
            · subst e; exact (hd3 rd h3).2
            · rw [hk3 46 _ (by omega) (by omega) (by omega) (by omega) (by omega) (by omega), hk2 46 _ (by omega) (by omega) (by omega)]; exact hin.2 k rd (by omega) h2 h3
          refine aX_iinc (v := (nI (c)) + (-1)) (lv' := [(0, .ref 41), (1, .int ((nI (c)) + (-1)))]) dX1_make_56 rfl rfl (by decide) rfl ?_
          refine aX_goto (tgt := 14) dX1_make_59 (by decide) ?_
          refine aX_lv (lv' := [(0, .ref 41), (1, .int (jDn c))]) [0, 1] (by rw [← jDn_dec]; rfl) ?_
          exact ih c (by omega) c (by omega) rfl I3 _ ⟨fun rd _ hrd => ⟨by rw [show aUr L3 45 _ 44 rd = L3 44 rd from congrFun (aUr_o (by decide)) rd]; exact hm3 rd hrd, by rw [aUr_s, pk_cpy_in (Nat.zero_le _) (by omega), Nat.zero_add, Nat.sub_zero]; exact hm3 rd hrd⟩, hf3⟩ hct3 hkp3 (fun q j hq => by rw [show aUr L3 45 _ q j = L3 q j from congrFun (aUr_o (by omega)) j]; exact hlp3 q j hq)
set_option maxHeartbeats 1000000 in
theorem c_make {I : Nat → Nat → Int32} {L : Nat → Nat → Int64} {R : Nat → Nat → Option Nat} (hR : aRf R) {s : jN} (hc : cRep I s) {r : jR} (hr : rRep I r) {w : jW} (hw : wRep I w) (h0 : 0 < (jS s).length) (hp : ∀ k, k < (jS s).length → 0 < jCn s r k) (hns : jNs s r w) : aM mX1_make [.ref 41] (sh0, I, L, R) (fun ans h' => ans = some (.long (jCost s r w ((jS s).length - 1) (jChs s r w 0))) ∧ ∃ I' L', h' = (sh0, I', L', R) ∧ (∀ k, k < (jS s).length → I' 42 k = nI (jChs s r w k)) ∧ hK 40 48 I I' ∧ lK 44 45 L L') := by
  refine aM_of plX1_make (Nat.le_of_ble_eq_true rfl) ?_
  refine aX_aload_n dX1_make_0 rfl ?_
  refine cV (As := []) (st := []) dX1_make_1 kX1_make_45 s41 aEok0 rfl rfl (Nat.le_of_ble_eq_true rfl) (c_countReadings hR hc hr) (fun r h' hq => ?_)
  obtain ⟨rfl, I2, rfl, hct, hk2⟩ := hq
  refine ⟨rfl, ?_⟩
  have hkp2 : hK 40 48 I I2 := hK_mono (by decide) (by decide) hk2
  have hc2 := cRep_hK hkp2 (by decide) hc
  refine aX_aload_n dX1_make_4 rfl ?_
  refine aX_get dX1_make_5 lfX1_34 s41 (f41_0 hR) ?_
  refine aX_get (v := .int (nI ((jS s).length))) dX1_make_8 lfX1_48 s16 (congrArg Value.int (hc2.2.2.2.1.1)) ?_
  refine aX_iconst (v := nI 1) dX1_make_11 (by decide) ?_
  refine aX_isub dX1_make_12 ?_
  rw [jDn_sub]
  refine aX_istore_n (lv' := [(0, .ref 41), (1, .int (jDn (jS s).length))]) dX1_make_13 (by decide) rfl ?_
  exact l_make hR hc hr hw h0 hp hns _ (jS s).length (Nat.le_refl _) rfl I2 L ⟨fun rd h _ => absurd h (by omega), fun k rd h1 h2 _ => by omega⟩ hct hkp2 lK_refl
