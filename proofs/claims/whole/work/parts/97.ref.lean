/-! THE REFERENCE: pure, pump -/
theorem sh_same {I I' : Nat → Nat → Int32} {L : Nat → Nat → Int64} {z : jZ} (h : shK I I') (hz : mmRep I L z) : mmRep I' L z := mmRep_same ⟨fun q j g => h q j (by omega), fun _ _ _ => rfl⟩ hz
theorem isIn_y {y : Int32} {a : Nat} (ha : a < 2 ^ 31) : (decide (nI 0 ≤ y) && decide (y ≤ nI a)) = (!decide (y < 0) && decide (y ≤ nI a)) := by
  have e : decide (nI 0 ≤ y) = !decide (y < 0) := by
    by_cases g : y < 0
    · rw [decide_eq_true g, decide_eq_false (show ¬ nI 0 ≤ y from Int32.not_le.mpr g)]; rfl
    · rw [decide_eq_false g, decide_eq_true (show nI 0 ≤ y from Int32.not_lt.mp g)]; rfl
  rw [e]
set_option maxHeartbeats 1000000 in
theorem m10_pure {I : Nat → Nat → Int32} {L : Nat → Nat → Int64} {R : Nat → Nat → Option Nat} (hR : aRf R) {z : jZ} (hz : mmRep I L z) {x y : Int32} : aM mX11_pure [.ref 159, .int x, .int y] (sh0, I, L, R) (fun ans h' => ans = some (.int (oPure z x y)) ∧ ∃ I' L', h' = (sh0, I', L', R) ∧ mmRep I' L' z ∧ mmK I I' ∧ mmKL L L') := by
  obtain ⟨hs, ho, h6, hl, hg, hw, hS, hcn, h12, h13, hpc, hcz, hpz, hpr, htx⟩ := id hz
  have hn := ho.1
  have hSl := jS_len z.1
  refine aM_of plX11_pure (Nat.le_of_ble_eq_true rfl) ?_
  refine aX_aload_n dX11_pure_0 rfl ?_
  refine aX_iload_n dX11_pure_1 rfl ?_
  refine cVp (As := [.int (x)]) (st := []) (v := .int (bI (jIx x (jS z.1).length))) dX11_pure_2 kX11_pure_184 s159 aEok0 rfl rfl (Nat.le_of_ble_eq_true rfl) (m_isSet hR hs ho hS hSl) ?_
  refine bEq (tgt := 19) dX11_pure_5 (by decide) (fun c1 => ?_) (fun c1 => ?_)
  · refine aX_iconst (v := (-1)) dX11_pure_19 (by decide) ?_
    exact rI dX11_pure_20 rfl (⟨by rw [show oPure z x y = -1 by unfold oPure; rw [if_neg (by simp [c1])]], I, L, rfl, hz, fun _ _ _ => rfl, fun _ _ _ => rfl⟩)
  · obtain ⟨k, hk, rfl⟩ := jIx_t (by omega) c1
    refine aX_aload_n dX11_pure_8 rfl ?_
    refine aX_iload_n dX11_pure_9 rfl ?_
    refine aX_iconst (v := nI 0) dX11_pure_10 (by decide) ?_
    refine aX_bipush (v := nI 7) dX11_pure_11 (by decide) ?_
    refine cVp (As := [.int (y), .int (nI (0)), .int (nI (7))]) (st := []) (v := .int (bI (decide (nI (0) ≤ y) && decide (y ≤ nI (7))))) dX11_pure_13 kX11_pure_180 s159 aEok0 rfl rfl (Nat.le_of_ble_eq_true rfl) (m_isIn) ?_
    refine bNe (tgt := 21) dX11_pure_16 (by decide) (fun c2 => ?_) (fun c2 => ?_)
    · have hy := c2
      rw [isIn_y (by decide)] at hy
      obtain ⟨v, hv, rfl⟩ := (isIn_lt (by decide)).mp c2
      refine aX_aload_n dX11_pure_21 rfl ?_
      refine aX_get (v := .int (bI (z.2.2.2.1))) dX11_pure_22 lfX11_143 s159 (congrArg Value.int (h12)) ?_
      refine bNe (tgt := 31) dX11_pure_25 (by decide) (fun c3 => ?_) (fun c3 => ?_)
      · have hcC := c3
        refine aX_aload_n dX11_pure_31 rfl ?_
        refine cV (As := []) (st := []) dX11_pure_32 kX11_pure_319 s159 aEok0 rfl rfl (Nat.le_of_ble_eq_true rfl) (m_shifts hR hs ho hS hl (hcz hcC).1 (hcz hcC).2) (fun ans' h' hq9 => ?_)
        obtain ⟨rfl, I2, rfl, hsh, hk2⟩ := hq9
        refine ⟨rfl, ?_⟩
        have hz2 := sh_same hk2 hz
        refine aX_iload_n dX11_pure_35 rfl ?_
        refine aX_bipush (v := nI 6) dX11_pure_36 (by decide) ?_
        refine nGe (tgt := 55) dX11_pure_38 (by decide) (by first | omega | exact Nat.lt_of_le_of_lt (Nat.mod_le _ _) (by omega)) (by first | omega | exact Nat.lt_of_le_of_lt (Nat.mod_le _ _) (by omega)) (fun c4 => ?_) (fun c4 => ?_)
        · refine aX_iload_n dX11_pure_55 rfl ?_
          refine aX_bipush (v := nI 6) dX11_pure_56 (by decide) ?_
          refine nNe (tgt := 70) dX11_pure_58 (by decide) (by first | omega | exact Nat.lt_of_le_of_lt (Nat.mod_le _ _) (by omega)) (by first | omega | exact Nat.lt_of_le_of_lt (Nat.mod_le _ _) (by omega)) (fun c5 => ?_) (fun c5 => ?_)
          · refine aX_aload_n dX11_pure_70 rfl ?_
            refine aX_get dX11_pure_71 lfX11_129 s159 (f159_46 hR) ?_
            refine aX_iload_n dX11_pure_74 rfl ?_
            refine nIald (v := jDr z.1 z.2.1 (jChs z.1 z.2.1 z.2.2.1) k) dX11_pure_75 s196 (by first | omega | exact Nat.lt_of_le_of_lt (Nat.mod_le _ _) (by omega)) (by decide) ((hsh k hk).2.2) ?_
            exact rI dX11_pure_76 rfl (⟨by rw [show oPure z (nI k) (nI v) = jDr z.1 z.2.1 (jChs z.1 z.2.1 z.2.2.1) k by unfold oPure; rw [if_pos (by rw [Bool.and_assoc, hy, c1]; rfl)]; rw [if_pos hcC]; simp only [nI_clamp (show k < 2 ^ 31 by omega), nI_clamp (show v < 2 ^ 31 by omega)]; rw [if_neg (by omega), if_neg (by omega)]], I2, L, rfl, hz2, fun q j g => hk2 q j (by omega), fun _ _ _ => rfl⟩)
          · refine aX_aload_n dX11_pure_61 rfl ?_
            refine aX_get dX11_pure_62 lfX11_126 s159 (f159_45 hR) ?_
            refine aX_iload_n dX11_pure_65 rfl ?_
            refine nIald (v := nI (jChn z.1 k)) dX11_pure_66 s195 (by first | omega | exact Nat.lt_of_le_of_lt (Nat.mod_le _ _) (by omega)) (by decide) ((hsh k hk).1) ?_
            refine aX_goto (tgt := 76) dX11_pure_67 (by decide) ?_
            exact rI dX11_pure_76 rfl (⟨by rw [show oPure z (nI k) (nI v) = nI (jChn z.1 k) by unfold oPure; rw [if_pos (by rw [Bool.and_assoc, hy, c1]; rfl)]; rw [if_pos hcC]; simp only [nI_clamp (show k < 2 ^ 31 by omega), nI_clamp (show v < 2 ^ 31 by omega)]; rw [if_neg (by omega), if_pos (by omega)]], I2, L, rfl, hz2, fun q j g => hk2 q j (by omega), fun _ _ _ => rfl⟩)
        · refine aX_aload_n dX11_pure_41 rfl ?_
          refine aX_get dX11_pure_42 lfX11_123 s159 (f159_44 hR) ?_
          refine aX_bipush (v := nI 6) dX11_pure_45 (by decide) ?_
          refine aX_iload_n dX11_pure_47 rfl ?_
          refine nMul dX11_pure_48 ?_
          refine aX_iload_n dX11_pure_49 rfl ?_
          refine nAdd dX11_pure_50 ?_
          refine nIald (v := jSh z.1 z.2.1 (jChs z.1 z.2.1 z.2.2.1) k v) dX11_pure_51 s194 (by first | omega | exact Nat.lt_of_le_of_lt (Nat.mod_le _ _) (by omega)) (by decide) ((hsh k hk).2.1 v (by omega)) ?_
          refine aX_goto (tgt := 76) dX11_pure_52 (by decide) ?_
          exact rI dX11_pure_76 rfl (⟨by rw [show oPure z (nI k) (nI v) = jSh z.1 z.2.1 (jChs z.1 z.2.1 z.2.2.1) k v by unfold oPure; rw [if_pos (by rw [Bool.and_assoc, hy, c1]; rfl)]; rw [if_pos hcC]; simp only [nI_clamp (show k < 2 ^ 31 by omega), nI_clamp (show v < 2 ^ 31 by omega)]; rw [if_pos (by omega)]], I2, L, rfl, hz2, fun q j g => hk2 q j (by omega), fun _ _ _ => rfl⟩)
      · have hcC := c3
        refine aX_bipush (v := (-2)) dX11_pure_28 (by decide) ?_
        exact rI dX11_pure_30 rfl (⟨by rw [show oPure z (nI k) (nI v) = -2 by unfold oPure; rw [if_pos (by rw [Bool.and_assoc, hy, c1]; rfl)]; rw [if_neg (by simp [hcC])]], I, L, rfl, hz, fun _ _ _ => rfl, fun _ _ _ => rfl⟩)
    · have hy := c2
      rw [isIn_y (by decide)] at hy
      refine aX_iconst (v := (-1)) dX11_pure_19 (by decide) ?_
      exact rI dX11_pure_20 rfl (⟨by rw [show oPure z (nI k) y = -1 by unfold oPure; rw [if_neg (by rw [Bool.and_assoc, hy, Bool.and_false]; exact Bool.false_ne_true)]], I, L, rfl, hz, fun _ _ _ => rfl, fun _ _ _ => rfl⟩)
set_option maxHeartbeats 1000000 in
theorem ml_pm1 {I : Nat → Nat → Int32} {L : Nat → Nat → Int64} {R : Nat → Nat → Option Nat} (hR : aRf R) {s : jN} (hs : mnRep I s) (ho : jOk s) (hS : msRep I s (jS s)) {r : jR} {ch : Nat → Nat} (hsh : ∀ k, k < (jS s).length → shIn I s r ch k) {x v : Nat} (hx : x < 2 ^ 31) (hv : v ≤ 2) {l : Nat} (hl : l < (jS s).length) (kk : ∀ se : Nat, se = (jPo s r ch l ++ jPi s r ch l l).length → se ≤ x → aX mX11_pump aE0 (sh0, I, L, R) 164 [(0, .ref 159), (1, .int (nI x)), (2, .int (nI v)), (3, .int (nI se)), (4, .int (nI l)), (5, .int (nI l))] [] 0 0 (fun ans h' => h' = (sh0, I, L, R) ∧ ans = some (.int (match (jPo s r ch (jS s).length)[x]? with | some q => jPv s r ch q.1 q.2 v | none => -9)))) : ∀ (k9 k : Nat), k ≤ l → l - k = k9 → ∀ (se : Nat), se = (jPo s r ch l ++ jPi s r ch l k).length → se ≤ x → aX mX11_pump aE0 (sh0, I, L, R) 47 [(0, .ref 159), (1, .int (nI (x))), (2, .int (nI (v))), (3, .int (nI (se))), (4, .int (nI (l))), (5, .int (nI (k)))] [] 0 0 (fun ans h' => h' = (sh0, I, L, R) ∧ ans = some (.int (match (jPo s r ch (jS s).length)[x]? with | some q => jPv s r ch q.1 q.2 v | none => -9))) := by
  intro k9
  induction k9 using Nat.strongRecOn with
  | _ k9 ih =>
    intro k hi hk9 se  hse hsx
    have hn := ho.1
    have hSl := jS_len s
    refine aX_iload dX11_pump_47 rfl ?_
    refine aX_iload dX11_pump_49 rfl ?_
    refine nGe (tgt := 164) dX11_pump_51 (by decide) (by first | omega | exact Nat.lt_of_le_of_lt (Nat.mod_le _ _) (by omega)) (by first | omega | exact Nat.lt_of_le_of_lt (Nat.mod_le _ _) (by omega)) (fun c1 => ?_) (fun c1 => ?_)
    · obtain rfl : k = l := by omega
      exact kk se hse hsx
    · have hkl : k < l := c1
      obtain ⟨qk, hqk, hqb⟩ := jQ (show k < (jS s).length by omega)
      obtain ⟨ql, hql, hqlb⟩ := jQ hl
      have hbk := (jBase_in (jS_in hqk).2.2).2.1
      have hbl := (jBase_in (jS_in hql).2.2).2.1
      have hok := (ho.2 _ hbk).1
      have hol := (ho.2 _ hbl).1
      have hca := jChn_le s k
      have hcb := jChn_le s l
      have ek : jBk s k = s.2.1 (jBase s qk.1) := by unfold jBk; rw [hqb]
      have el : jBk s l = s.2.1 (jBase s ql.1) := by unfold jBk; rw [hqlb]
      refine aX_aload_n dX11_pump_54 rfl ?_
      refine aX_get dX11_pump_55 lfX11_126 s159 (f159_45 hR) ?_
      refine aX_iload dX11_pump_58 rfl ?_
      refine nIald (v := nI (jChn s k)) dX11_pump_60 s195 (by first | omega | exact Nat.lt_of_le_of_lt (Nat.mod_le _ _) (by omega)) (by decide) ((hsh k (by omega)).1) ?_
      refine aX_aload_n dX11_pump_61 rfl ?_
      refine aX_get dX11_pump_62 lfX11_126 s159 (f159_45 hR) ?_
      refine aX_iload dX11_pump_65 rfl ?_
      refine nIald (v := nI (jChn s l)) dX11_pump_67 s195 (by first | omega | exact Nat.lt_of_le_of_lt (Nat.mod_le _ _) (by omega)) (by decide) ((hsh l (by omega)).1) ?_
      refine nNe (tgt := 158) dX11_pump_68 (by decide) (by first | omega | exact Nat.lt_of_le_of_lt (Nat.mod_le _ _) (by omega)) (by first | omega | exact Nat.lt_of_le_of_lt (Nat.mod_le _ _) (by omega)) (fun c2 => ?_) (fun c2 => ?_)
      · have hpm : jPm s r ch k l = false := by unfold jPm; rw [decide_eq_false (show ¬ jChn s k = jChn s l by omega)]; rfl
        refine nInc (lv' := [(0, .ref 159), (1, .int (nI (x))), (2, .int (nI (v))), (3, .int (nI (se))), (4, .int (nI (l))), (5, .int (nI (k + 1)))]) dX11_pump_158 rfl rfl (by decide) rfl ?_
        refine aX_goto (tgt := 47) dX11_pump_161 (by decide) ?_
        have e9 : jPi s r ch l (k + 1) = jPi s r ch l k := by show (if jPm s r ch k l then _ else _) = _; rw [hpm]; rfl
        exact ih (l - (k + 1)) (by omega) (k + 1) (by omega) rfl _ (by rw [e9, hse]) (by omega)
      · have p1 : jChn s k = jChn s l := c2
        refine aX_aload_n dX11_pump_71 rfl ?_
        refine aX_get dX11_pump_72 lfX11_7 s159 (f159_1 hR) ?_
        refine aX_aload_n dX11_pump_75 rfl ?_
        refine aX_get dX11_pump_76 lfX11_60 s159 (f159_18 hR) ?_
        refine aX_iload dX11_pump_79 rfl ?_
        refine nIald (v := nI (jBase s qk.1)) dX11_pump_81 s174 (by first | omega | exact Nat.lt_of_le_of_lt (Nat.mod_le _ _) (by omega)) (by decide) ((hS.2 k qk hqk).2.2.2.1) ?_
        refine nIald (v := nI (s.2.1 (jBase s qk.1))) dX11_pump_82 s160 (by first | omega | exact Nat.lt_of_le_of_lt (Nat.mod_le _ _) (by omega)) (by decide) ((hs.2 _ hbk).1) ?_
        refine aX_aload_n dX11_pump_83 rfl ?_
        refine aX_get dX11_pump_84 lfX11_7 s159 (f159_1 hR) ?_
        refine aX_aload_n dX11_pump_87 rfl ?_
        refine aX_get dX11_pump_88 lfX11_60 s159 (f159_18 hR) ?_
        refine aX_iload dX11_pump_91 rfl ?_
        refine nIald (v := nI (jBase s ql.1)) dX11_pump_93 s174 (by first | omega | exact Nat.lt_of_le_of_lt (Nat.mod_le _ _) (by omega)) (by decide) ((hS.2 l ql hql).2.2.2.1) ?_
        refine nIald (v := nI (s.2.1 (jBase s ql.1))) dX11_pump_94 s160 (by first | omega | exact Nat.lt_of_le_of_lt (Nat.mod_le _ _) (by omega)) (by decide) ((hs.2 _ hbl).1) ?_
        refine nNe (tgt := 158) dX11_pump_95 (by decide) (by first | omega | exact Nat.lt_of_le_of_lt (Nat.mod_le _ _) (by omega)) (by first | omega | exact Nat.lt_of_le_of_lt (Nat.mod_le _ _) (by omega)) (fun c3 => ?_) (fun c3 => ?_)
        · have hpm : jPm s r ch k l = false := by unfold jPm; rw [decide_eq_false (show ¬ jBk s k = jBk s l by omega)]; simp
          refine nInc (lv' := [(0, .ref 159), (1, .int (nI (x))), (2, .int (nI (v))), (3, .int (nI (se))), (4, .int (nI (l))), (5, .int (nI (k + 1)))]) dX11_pump_158 rfl rfl (by decide) rfl ?_
          refine aX_goto (tgt := 47) dX11_pump_161 (by decide) ?_
          have e9 : jPi s r ch l (k + 1) = jPi s r ch l k := by show (if jPm s r ch k l then _ else _) = _; rw [hpm]; rfl
          exact ih (l - (k + 1)) (by omega) (k + 1) (by omega) rfl _ (by rw [e9, hse]) (by omega)
        · have p2 : jBk s k = jBk s l := by omega
          refine aX_aload_n dX11_pump_98 rfl ?_
          refine aX_get dX11_pump_99 lfX11_129 s159 (f159_46 hR) ?_
          refine aX_iload dX11_pump_102 rfl ?_
          refine nIald (v := jDr s r ch k) dX11_pump_104 s196 (by first | omega | exact Nat.lt_of_le_of_lt (Nat.mod_le _ _) (by omega)) (by decide) ((hsh k (by omega)).2.2) ?_
          refine aX_aload_n dX11_pump_105 rfl ?_
          refine aX_get dX11_pump_106 lfX11_129 s159 (f159_46 hR) ?_
          refine aX_iload dX11_pump_109 rfl ?_
          refine nIald (v := jDr s r ch l) dX11_pump_111 s196 (by first | omega | exact Nat.lt_of_le_of_lt (Nat.mod_le _ _) (by omega)) (by decide) ((hsh l (by omega)).2.2) ?_
          refine aX_icmp_eq (tgt := 158) dX11_pump_112 (by decide) (fun c4 => ?_) (fun c4 => ?_)
          · have hpm : jPm s r ch k l = false := by unfold jPm; rw [decide_eq_false (show ¬ jDr s r ch k ≠ jDr s r ch l from fun z => z c4)]; simp
            refine nInc (lv' := [(0, .ref 159), (1, .int (nI (x))), (2, .int (nI (v))), (3, .int (nI (se))), (4, .int (nI (l))), (5, .int (nI (k + 1)))]) dX11_pump_158 rfl rfl (by decide) rfl ?_
            refine aX_goto (tgt := 47) dX11_pump_161 (by decide) ?_
            have e9 : jPi s r ch l (k + 1) = jPi s r ch l k := by show (if jPm s r ch k l then _ else _) = _; rw [hpm]; rfl
            exact ih (l - (k + 1)) (by omega) (k + 1) (by omega) rfl _ (by rw [e9, hse]) (by omega)
          · have hpm : jPm s r ch k l = true := by unfold jPm; rw [decide_eq_true p1, decide_eq_true p2, decide_eq_true (show jDr s r ch k ≠ jDr s r ch l from c4)]; rfl
            refine aX_iload_n dX11_pump_115 rfl ?_
            refine aX_iload_n dX11_pump_116 rfl ?_
            refine nNe (tgt := 155) dX11_pump_117 (by decide) (by first | omega | exact Nat.lt_of_le_of_lt (Nat.mod_le _ _) (by omega)) (by first | omega | exact Nat.lt_of_le_of_lt (Nat.mod_le _ _) (by omega)) (fun c5 => ?_) (fun c5 => ?_)
            · refine nInc (lv' := [(0, .ref 159), (1, .int (nI (x))), (2, .int (nI (v))), (3, .int (nI (se + 1))), (4, .int (nI (l))), (5, .int (nI (k)))]) dX11_pump_155 rfl rfl (by decide) rfl ?_
              refine nInc (lv' := [(0, .ref 159), (1, .int (nI (x))), (2, .int (nI (v))), (3, .int (nI (se + 1))), (4, .int (nI (l))), (5, .int (nI (k + 1)))]) dX11_pump_158 rfl rfl (by decide) rfl ?_
              refine aX_goto (tgt := 47) dX11_pump_161 (by decide) ?_
              have e9 : jPi s r ch l (k + 1) = jPi s r ch l k ++ [(k, l)] := by show (if jPm s r ch k l then _ else _) = _; rw [if_pos hpm]
              exact ih (l - (k + 1)) (by omega) (k + 1) (by omega) rfl _ (by rw [e9, hse, ← List.append_assoc, List.length_append (bs := [(k, l)])]; rfl) (by omega)
            · have hat := jPo_at (n := (jS s).length) (x := x) hl hkl hpm (by omega)
              refine aX_iload_n dX11_pump_120 rfl ?_
              refine nIf_ne (tgt := 129) dX11_pump_121 (by decide) (by first | omega | exact Nat.lt_of_le_of_lt (Nat.mod_le _ _) (by omega)) (fun c6 => ?_) (fun c6 => ?_)
              · refine aX_iload_n dX11_pump_129 rfl ?_
                refine aX_iconst (v := nI 1) dX11_pump_130 (by decide) ?_
                refine nNe (tgt := 139) dX11_pump_131 (by decide) (by first | omega | exact Nat.lt_of_le_of_lt (Nat.mod_le _ _) (by omega)) (by first | omega | exact Nat.lt_of_le_of_lt (Nat.mod_le _ _) (by omega)) (fun c7 => ?_) (fun c7 => ?_)
                · refine aX_aload_n dX11_pump_139 rfl ?_
                  refine aX_get dX11_pump_140 lfX11_129 s159 (f159_46 hR) ?_
                  refine aX_iload dX11_pump_143 rfl ?_
                  refine nIald (v := jDr s r ch l) dX11_pump_145 s196 (by first | omega | exact Nat.lt_of_le_of_lt (Nat.mod_le _ _) (by omega)) (by decide) ((hsh l (by omega)).2.2) ?_
                  refine aX_aload_n dX11_pump_146 rfl ?_
                  refine aX_get dX11_pump_147 lfX11_129 s159 (f159_46 hR) ?_
                  refine aX_iload dX11_pump_150 rfl ?_
                  refine nIald (v := jDr s r ch k) dX11_pump_152 s196 (by first | omega | exact Nat.lt_of_le_of_lt (Nat.mod_le _ _) (by omega)) (by decide) ((hsh k (by omega)).2.2) ?_
                  refine aX_isub dX11_pump_153 ?_
                  exact rI dX11_pump_154 rfl (⟨rfl, by rw [hat]; show some (Value.int (jDr s r ch l - jDr s r ch k)) = some (Value.int (jPv s r ch k l v)); unfold jPv; first | rw [if_pos (by omega)] | rw [if_neg (by omega), if_pos (by omega)] | rw [if_neg (by omega), if_neg (by omega)]⟩)
                · refine aX_iload dX11_pump_134 rfl ?_
                  refine aX_goto (tgt := 154) dX11_pump_136 (by decide) ?_
                  exact rI dX11_pump_154 rfl (⟨rfl, by rw [hat]; show some (Value.int (nI (l))) = some (Value.int (jPv s r ch k l v)); unfold jPv; first | rw [if_pos (by omega)] | rw [if_neg (by omega), if_pos (by omega)] | rw [if_neg (by omega), if_neg (by omega)]⟩)
              · refine aX_iload dX11_pump_124 rfl ?_
                refine aX_goto (tgt := 154) dX11_pump_126 (by decide) ?_
                exact rI dX11_pump_154 rfl (⟨rfl, by rw [hat]; show some (Value.int (nI (k))) = some (Value.int (jPv s r ch k l v)); unfold jPv; first | rw [if_pos (by omega)] | rw [if_neg (by omega), if_pos (by omega)] | rw [if_neg (by omega), if_neg (by omega)]⟩)
set_option maxHeartbeats 1000000 in
theorem ml_pm {I : Nat → Nat → Int32} {L : Nat → Nat → Int64} {R : Nat → Nat → Option Nat} (hR : aRf R) {s : jN} (hs : mnRep I s) (ho : jOk s) (hS : msRep I s (jS s)) {r : jR} {ch : Nat → Nat} (hsh : ∀ k, k < (jS s).length → shIn I s r ch k) {x v : Nat} (hx : x < 2 ^ 31) (hv : v ≤ 2) : ∀ (k9 l : Nat), l ≤ (jS s).length → ((jS s).length) - l = k9 → ∀ (se : Nat), se = (jPo s r ch l).length → se ≤ x → aX mX11_pump aE0 (sh0, I, L, R) 35 [(0, .ref 159), (1, .int (nI (x))), (2, .int (nI (v))), (3, .int (nI (se))), (4, .int (nI (l)))] [] 0 0 (fun ans h' => h' = (sh0, I, L, R) ∧ ans = some (.int (match (jPo s r ch (jS s).length)[x]? with | some q => jPv s r ch q.1 q.2 v | none => -9))) := by
  intro k9
  induction k9 using Nat.strongRecOn with
  | _ k9 ih =>
    intro l hi hk9 se  hse hsx
    have hn := ho.1
    have hSl := jS_len s
    refine aX_iload dX11_pump_35 rfl ?_
    refine aX_aload_n dX11_pump_37 rfl ?_
    refine aX_get (v := .int (nI ((jS s).length))) dX11_pump_38 lfX11_154 s159 (congrArg Value.int (hS.1)) ?_
    refine nGe (tgt := 170) dX11_pump_41 (by decide) (by first | omega | exact Nat.lt_of_le_of_lt (Nat.mod_le _ _) (by omega)) (by first | omega | exact Nat.lt_of_le_of_lt (Nat.mod_le _ _) (by omega)) (fun c1 => ?_) (fun c1 => ?_)
    · refine aX_bipush (v := (-9)) dX11_pump_170 (by decide) ?_
      exact rI dX11_pump_172 rfl (⟨rfl, by rw [show (jPo s r ch (jS s).length)[x]? = none by have e : l = (jS s).length := (by omega); rw [← e]; exact List.getElem?_eq_none (by omega)]⟩)
    · refine aX_iconst (v := nI 0) dX11_pump_44 (by decide) ?_
      refine aX_istore (lv' := [(0, .ref 159), (1, .int (nI (x))), (2, .int (nI (v))), (3, .int (nI (se))), (4, .int (nI (l))), (5, .int (nI (0)))]) dX11_pump_45 (by decide) rfl ?_
      refine ml_pm1 hR hs ho hS hsh hx hv (l := l) (by omega) (fun se hse hsx => ?_) _ 0 (by omega) rfl se (by rw [hse]; show _ = (jPo s r ch l ++ []).length; rw [List.append_nil]) hsx
      refine nInc (lv' := [(0, .ref 159), (1, .int (nI (x))), (2, .int (nI (v))), (3, .int (nI (se))), (4, .int (nI (l + 1))), (5, .int (nI (l)))]) dX11_pump_164 rfl rfl (by decide) rfl ?_
      refine aX_goto (tgt := 35) dX11_pump_167 (by decide) ?_
      refine aX_lv (lv' := [(0, .ref 159), (1, .int (nI (x))), (2, .int (nI (v))), (3, .int (nI (se))), (4, .int (nI (l + 1)))]) [0, 1, 2, 3, 4] rfl ?_
      exact ih ((jS s).length - (l + 1)) (by omega) (l + 1) (by omega) rfl se hse hsx
set_option maxHeartbeats 1000000 in
theorem m10_pump {I : Nat → Nat → Int32} {L : Nat → Nat → Int64} {R : Nat → Nat → Option Nat} (hR : aRf R) {z : jZ} (hz : mmRep I L z) {x y : Int32} : aM mX11_pump [.ref 159, .int x, .int y] (sh0, I, L, R) (fun ans h' => ans = some (.int (oPump z x y)) ∧ ∃ I' L', h' = (sh0, I', L', R) ∧ mmRep I' L' z ∧ mmK I I' ∧ mmKL L L') := by
  obtain ⟨hs, ho, h6, hl, hg, hw, hS, hcn, h12, h13, hpc, hcz, hpz, hpr, htx⟩ := id hz
  have hn := ho.1
  have hSl := jS_len z.1
  refine aM_of plX11_pump (Nat.le_of_ble_eq_true rfl) ?_
  refine aX_iload_n dX11_pump_0 rfl ?_
  refine aX_if_lt (tgt := 14) dX11_pump_1 (by decide) (fun c1 => ?_) (fun c1 => ?_)
  · refine aX_iconst (v := (-1)) dX11_pump_14 (by decide) ?_
    exact rI dX11_pump_15 rfl (⟨by rw [show oPump z x y = -1 by unfold oPump; rw [if_neg (by simp [c1])]], I, L, rfl, hz, fun _ _ _ => rfl, fun _ _ _ => rfl⟩)
  · obtain ⟨i, hi, rfl⟩ := nI_of c1
    refine aX_aload_n dX11_pump_4 rfl ?_
    refine aX_iload_n dX11_pump_5 rfl ?_
    refine aX_iconst (v := nI 0) dX11_pump_6 (by decide) ?_
    refine aX_iconst (v := nI 2) dX11_pump_7 (by decide) ?_
    refine cVp (As := [.int (y), .int (nI (0)), .int (nI (2))]) (st := []) (v := .int (bI (decide (nI (0) ≤ y) && decide (y ≤ nI (2))))) dX11_pump_8 kX11_pump_180 s159 aEok0 rfl rfl (Nat.le_of_ble_eq_true rfl) (m_isIn) ?_
    refine bNe (tgt := 16) dX11_pump_11 (by decide) (fun c2 => ?_) (fun c2 => ?_)
    · have hy := c2
      rw [isIn_y (by decide)] at hy
      obtain ⟨v, hv, rfl⟩ := (isIn_lt (by decide)).mp c2
      refine aX_aload_n dX11_pump_16 rfl ?_
      refine aX_get (v := .int (bI (z.2.2.2.1))) dX11_pump_17 lfX11_143 s159 (congrArg Value.int (h12)) ?_
      refine bNe (tgt := 26) dX11_pump_20 (by decide) (fun c3 => ?_) (fun c3 => ?_)
      · have hcC := c3
        refine aX_aload_n dX11_pump_26 rfl ?_
        refine cV (As := []) (st := []) dX11_pump_27 kX11_pump_319 s159 aEok0 rfl rfl (Nat.le_of_ble_eq_true rfl) (m_shifts hR hs ho hS hl (hcz hcC).1 (hcz hcC).2) (fun ans' h' hq9 => ?_)
        obtain ⟨rfl, I2, rfl, hsh, hk2⟩ := hq9
        refine ⟨rfl, ?_⟩
        have hz2 := sh_same hk2 hz
        refine aX_iconst (v := nI 0) dX11_pump_30 (by decide) ?_
        refine aX_istore_n (lv' := [(0, .ref 159), (1, .int (nI (i))), (2, .int (nI (v))), (3, .int (nI (0)))]) dX11_pump_31 (by decide) rfl ?_
        refine aX_iconst (v := nI 0) dX11_pump_32 (by decide) ?_
        refine aX_istore (lv' := [(0, .ref 159), (1, .int (nI (i))), (2, .int (nI (v))), (3, .int (nI (0))), (4, .int (nI (0)))]) dX11_pump_33 (by decide) rfl ?_
        refine aX_mono (ml_pm hR (mnRep_of (fun q j g => hk2 q j (by omega)) hs) ho (msRep_of (fun q j g => hk2 q j (by omega)) hS) hsh hi hv _ 0 (by omega) rfl 0 rfl (by omega)) (fun ans5 h5 hq5 => ?_)
        obtain ⟨rfl, rfl⟩ := hq5
        have hov : oPump z (nI i) (nI v) = (match (jPo z.1 z.2.1 (jChs z.1 z.2.1 z.2.2.1) (jS z.1).length)[i]? with | some q => jPv z.1 z.2.1 (jChs z.1 z.2.1 z.2.2.1) q.1 q.2 v | none => -9) := by unfold oPump; rw [if_pos (by rw [Bool.and_assoc, hy, decide_eq_false (nI_pos hi)]; rfl), if_pos hcC]; simp only [nI_clamp (show i < 2 ^ 31 by omega), nI_clamp (show v < 2 ^ 31 by omega)]; rfl
        exact ⟨(congrArg (fun q => some (Value.int q)) hov.symm), I2, L, rfl, hz2, fun q j g => hk2 q j (by omega), fun _ _ _ => rfl⟩
      · have hcC := c3
        refine aX_bipush (v := (-2)) dX11_pump_23 (by decide) ?_
        exact rI dX11_pump_25 rfl (⟨by rw [show oPump z (nI i) (nI v) = -2 by unfold oPump; rw [if_pos (by rw [Bool.and_assoc, hy, decide_eq_false (nI_pos hi)]; rfl), if_neg (by simp [hcC])]], I, L, rfl, hz, fun _ _ _ => rfl, fun _ _ _ => rfl⟩)
    · have hy := c2
      rw [isIn_y (by decide)] at hy
      refine aX_iconst (v := (-1)) dX11_pump_14 (by decide) ?_
      exact rI dX11_pump_15 rfl (⟨by rw [show oPump z (nI i) y = -1 by unfold oPump; rw [if_neg (by rw [Bool.and_assoc, hy, Bool.and_false]; exact Bool.false_ne_true)]], I, L, rfl, hz, fun _ _ _ => rfl, fun _ _ _ => rfl⟩)
