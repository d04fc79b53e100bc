/-! THE REFERENCE SOLVES -/
set_option maxHeartbeats 1000000 in
theorem ml_sIn {I : Nat → Nat → Int32} {L : Nat → Nat → Int64} {R : Nat → Nat → Option Nat} (hR : aRf R) {n : Nat} (hn : I 159 21 = nI n) (hn20 : n ≤ 20) {f : Nat → Nat} (hf : hgRep I n f) {i : Nat} (hi : i < n) {Q : Option Value → aH → Prop} (kk : ∀ b : Bool, (b = true ↔ ∀ q, i < q → q < n → f q ≠ f i) → aX mX11_solve aE0 (sh0, I, L, R) 93 [(0, .ref 159), (1, .int (nI i)), (2, .int (bI b)), (3, .int (nI n))] [] 0 0 Q) : ∀ (k9 j : Nat), j ≤ n → n - j = k9 → ∀ (b : Bool), i < j → (b = true ↔ ∀ q, i < q → q < j → f q ≠ f i) → aX mX11_solve aE0 (sh0, I, L, R) 56 [(0, .ref 159), (1, .int (nI (i))), (2, .int (bI (b))), (3, .int (nI (j)))] [] 0 0 Q := by
  intro k9
  induction k9 using Nat.strongRecOn with
  | _ k9 ih =>
    intro j hjn9 hk9 b  hij hb
    refine aX_iload_n dX11_solve_56 rfl ?_
    refine aX_aload_n dX11_solve_57 rfl ?_
    refine aX_get (v := .int (nI (n))) dX11_solve_58 lfX11_160 s159 (congrArg Value.int (hn)) ?_
    refine nGe (tgt := 93) dX11_solve_61 (by decide) (by first | omega | exact Nat.lt_of_le_of_lt (Nat.mod_le _ _) (by omega)) (by first | omega | exact Nat.lt_of_le_of_lt (Nat.mod_le _ _) (by omega)) (fun c1 => ?_) (fun c1 => ?_)
    · obtain rfl : j = n := by omega
      exact kk b hb
    · have hjn : j < n := c1
      have hfj := hf j hjn
      have hfi := hf i hi
      refine aX_iload_n dX11_solve_64 rfl ?_
      refine aX_aload_n dX11_solve_65 rfl ?_
      refine aX_get dX11_solve_66 lfX11_95 s159 (f159_30 hR) ?_
      refine aX_iload_n dX11_solve_69 rfl ?_
      refine nIald (v := nI (f j)) dX11_solve_70 s185 (by first | omega | exact Nat.lt_of_le_of_lt (Nat.mod_le _ _) (by omega)) (by decide) ((hf j (by omega)).1) ?_
      refine aX_aload_n dX11_solve_71 rfl ?_
      refine aX_get dX11_solve_72 lfX11_95 s159 (f159_30 hR) ?_
      refine aX_iload_n dX11_solve_75 rfl ?_
      refine nIald (v := nI (f i)) dX11_solve_76 s185 (by first | omega | exact Nat.lt_of_le_of_lt (Nat.mod_le _ _) (by omega)) (by decide) ((hf i (by omega)).1) ?_
      refine nEq (tgt := 84) dX11_solve_77 (by decide) (by first | omega | exact Nat.lt_of_le_of_lt (Nat.mod_le _ _) (by omega)) (by first | omega | exact Nat.lt_of_le_of_lt (Nat.mod_le _ _) (by omega)) (fun c2 => ?_) (fun c2 => ?_)
      · have hce : f j = f i := c2
        refine aX_iconst (v := nI 0) dX11_solve_84 (by decide) ?_
        refine aX_iand dX11_solve_85 ?_
        rw [show bI b &&& nI 0 = bI false by cases b <;> decide]
        refine aX_istore_n (lv' := [(0, .ref 159), (1, .int (nI (i))), (2, .int (bI (false))), (3, .int (nI (j)))]) dX11_solve_86 (by decide) rfl ?_
        refine nInc (lv' := [(0, .ref 159), (1, .int (nI (i))), (2, .int (bI (false))), (3, .int (nI (j + 1)))]) dX11_solve_87 rfl rfl (by decide) rfl ?_
        refine aX_goto (tgt := 56) dX11_solve_90 (by decide) ?_
        exact ih (n - (j + 1)) (by omega) (j + 1) (by omega) rfl false (by omega) ⟨fun z => absurd z Bool.false_ne_true, fun z => absurd hce (z j hij (by omega))⟩
      · have hce : f j ≠ f i := c2
        refine aX_iconst (v := nI 1) dX11_solve_80 (by decide) ?_
        refine aX_goto (tgt := 85) dX11_solve_81 (by decide) ?_
        refine aX_iand dX11_solve_85 ?_
        rw [show bI b &&& nI 1 = bI b by cases b <;> decide]
        refine aX_istore_n (lv' := [(0, .ref 159), (1, .int (nI (i))), (2, .int (bI (b))), (3, .int (nI (j)))]) dX11_solve_86 (by decide) rfl ?_
        refine nInc (lv' := [(0, .ref 159), (1, .int (nI (i))), (2, .int (bI (b))), (3, .int (nI (j + 1)))]) dX11_solve_87 rfl rfl (by decide) rfl ?_
        refine aX_goto (tgt := 56) dX11_solve_90 (by decide) ?_
        exact ih (n - (j + 1)) (by omega) (j + 1) (by omega) rfl b (by omega) ⟨fun z q h1 h2 => by
          by_cases e : q = j
          · rw [e]; exact hce
          · exact hb.mp z q h1 (by omega), fun z => hb.mpr (fun q h1 h2 => z q h1 (by omega))⟩
set_option maxHeartbeats 1000000 in
theorem ml_sLo {I : Nat → Nat → Int32} {L : Nat → Nat → Int64} {R : Nat → Nat → Option Nat} (hR : aRf R) {s : jN} {r : jR} {w : jW} (hr : rOk r) (hg : rGood r) (hw : mwRep I w) (hn : I 159 21 = nI (jVn s)) (hn20 : jVn s ≤ 20) {f : Nat → Nat} (hf : hgRep I (jVn s) f) (hok : hOk (rT1 s r (jChs s r w) w (jS s).length) f) {Q : Option Value → aH → Prop} (kk : ∀ I2 : Nat → Nat → Int32, (∀ a, a < jVn s → I2 186 a = bI (loF s r w a)) → I2 159 32 = nI (jLo s r (jChs s r w) w) → (∀ q j, q ≠ 186 → ¬ (q = 159 ∧ j = 32) → I2 q j = I q j) → aX mX11_solve aE0 (sh0, I2, L, R) 124 [(0, .ref 159)] [] 0 0 Q) : ∀ (k9 i : Nat), i ≤ jVn s → (jVn s) - i = k9 → ∀ (I1 : Nat → Nat → Int32), (i = 0 ∨ w 4 = 0) → (∀ a, a < i → I1 186 a = bI (loF s r w a)) → (∀ a, i ≤ a → a < jVn s → I1 186 a = bI false) → I1 159 32 = nI (jCnt (loF s r w) i) → (∀ q j, q ≠ 186 → ¬ (q = 159 ∧ j = 32) → I1 q j = I q j) → aX mX11_solve aE0 (sh0, I1, L, R) 33 [(0, .ref 159), (1, .int (nI (i)))] [] 0 0 Q := by
  intro k9
  induction k9 using Nat.strongRecOn with
  | _ k9 ih =>
    intro i hi hk9 I1  h4 h186 h186b h32 hk
    refine aX_iload_n dX11_solve_33 rfl ?_
    refine aX_aload_n dX11_solve_34 rfl ?_
    refine aX_get (v := .int (nI (jVn s))) dX11_solve_35 lfX11_160 s159 (congrArg Value.int ((hk 159 21 (by omega) (by omega)).trans hn)) ?_
    refine nGe (tgt := 124) dX11_solve_38 (by decide) (by first | omega | exact Nat.lt_of_le_of_lt (Nat.mod_le _ _) (by omega)) (by first | omega | exact Nat.lt_of_le_of_lt (Nat.mod_le _ _) (by omega)) (fun c1 => ?_) (fun c1 => ?_)
    · have hin : i = jVn s := by omega
      refine aX_lv (lv' := [(0, .ref 159)]) [0] rfl ?_
      exact kk I1 (fun a ha => h186 a (by omega)) (by rw [h32, hin, lo_cnt]) hk
    · have hil : i < jVn s := c1
      have hwb := hw.1.2 4 (by decide) (by decide)
      refine aX_aload_n dX11_solve_41 rfl ?_
      refine aX_get dX11_solve_42 lfX11_48 s159 (f159_11 hR) ?_
      refine aX_iconst (v := nI 4) dX11_solve_45 (by decide) ?_
      refine nIald (v := nI (w 4)) dX11_solve_46 s170 (by first | omega | exact Nat.lt_of_le_of_lt (Nat.mod_le _ _) (by omega)) (by decide) ((hk 170 4 (by omega) (by omega)).trans (hw.2 4 (by decide))) ?_
      refine nIf_ne (tgt := 124) dX11_solve_47 (by decide) (by first | omega | exact Nat.lt_of_le_of_lt (Nat.mod_le _ _) (by omega)) (fun c2 => ?_) (fun c2 => ?_)
      · have hw4 : w 4 ≠ 0 := by omega
        have hi0 : i = 0 := h4.resolve_right hw4
        refine aX_lv (lv' := [(0, .ref 159)]) [0] rfl ?_
        exact kk I1 (fun a ha => by rw [lo_no hw4]; exact h186b a (by omega) ha) (by rw [h32, hi0]; unfold jLo; rw [if_neg hw4]; rfl) hk
      · have hw4 : w 4 = 0 := c2
        refine aX_iconst (v := nI 1) dX11_solve_50 (by decide) ?_
        refine aX_istore_n (lv' := [(0, .ref 159), (1, .int (nI (i))), (2, .int (nI (1)))]) dX11_solve_51 (by decide) rfl ?_
        refine aX_iload_n dX11_solve_52 rfl ?_
        refine aX_iconst (v := nI 1) dX11_solve_53 (by decide) ?_
        refine nAdd dX11_solve_54 ?_
        refine aX_istore_n (lv' := [(0, .ref 159), (1, .int (nI (i))), (2, .int (nI (1))), (3, .int (nI (i + 1)))]) dX11_solve_55 (by decide) rfl ?_
        refine aX_lv (lv' := [(0, .ref 159), (1, .int (nI i)), (2, .int (bI true)), (3, .int (nI (i + 1)))]) [0, 1, 2, 3] rfl ?_
        refine ml_sIn hR ((hk 159 21 (by omega) (by omega)).trans hn) hn20 (f := f) (fun a ha => ⟨(hk 185 a (by omega) (by omega)).trans (hf a ha).1, (hf a ha).2⟩) hil (fun b hb => ?_) _ (i + 1) (by omega) rfl true (by omega) ⟨fun _ q h1 h2 => by omega, fun _ => rfl⟩
        have hbl : b = loF s r w i := by
          rw [Bool.eq_iff_iff, lo_lab hr hg hw.1 hw4 hok hil]; exact hb
        have hcl : jCnt (loF s r w) i ≤ i := jCnt_le _ _
        refine aX_aload_n dX11_solve_93 rfl ?_
        refine aX_get dX11_solve_94 lfX11_98 s159 (f159_31 hR) ?_
        refine aX_iload_n dX11_solve_97 rfl ?_
        refine aX_iload_n dX11_solve_98 rfl ?_
        refine nZast dX11_solve_99 s186 (by first | omega | exact Nat.lt_of_le_of_lt (Nat.mod_le _ _) (by omega)) (by decide) ?_
        refine aX_aload_n dX11_solve_100 rfl ?_
        refine aX_dup dX11_solve_101 rfl ?_
        refine aX_get (v := .int (nI (jCnt (loF s r w) i))) dX11_solve_102 lfX11_243 s159 (congrArg Value.int (show (aU I1 186 i (bI (b))) 159 32 = nI (jCnt (loF s r w) i) by rw [aU_n (by omega)]; exact h32)) ?_
        refine aX_iload_n dX11_solve_105 rfl ?_
        refine bEq (tgt := 113) dX11_solve_106 (by decide) (fun c1 => ?_) (fun c1 => ?_)
        · have hb9 := c1
          refine aX_iconst (v := nI 0) dX11_solve_113 (by decide) ?_
          refine nAdd dX11_solve_114 ?_
          refine pI dX11_solve_115 lfX11_243 (fun _ _ _ hq => by cases hq; exact Or.inl rfl) s159 rfl ?_
          obtain ⟨I3, hI3⟩ : ∃ z, z = (aU (aU I1 186 i (bI (b))) 159 32 (nI ((jCnt (loF s r w) i) + 0))) := ⟨_, rfl⟩
          rw [← hI3]
          have h32' : I3 159 32 = nI (jCnt (loF s r w) (i + 1)) := by
            rw [hI3, aU_s]
            show _ = nI (if loF s r w i then jCnt (loF s r w) i + 1 else jCnt (loF s r w) i)
            rw [← hbl, hb9]; rfl
          refine nInc (lv' := [(0, .ref 159), (1, .int (nI (i + 1))), (2, .int (bI (b))), (3, .int (nI (jVn s)))]) dX11_solve_118 rfl rfl (by decide) rfl ?_
          refine aX_goto (tgt := 33) dX11_solve_121 (by decide) ?_
          refine aX_lv (lv' := [(0, .ref 159), (1, .int (nI (i + 1)))]) [0, 1] rfl ?_
          exact ih (jVn s - (i + 1)) (by omega) (i + 1) (by omega) rfl I3 (Or.inr hw4) (fun a ha => by
            rw [hI3, aU_n (by omega)]
            by_cases e : a = i
            · rw [e, aU_s, hbl]
            · rw [aU_n (by omega)]; exact h186 a (by omega)) (fun a h1 h2 => by rw [hI3, aU_n (by omega), aU_n (by omega)]; exact h186b a (by omega) h2) h32' (fun q j g1 g2 => by rw [hI3, aU_n (by omega), aU_n (by omega)]; exact hk q j g1 g2)
        · have hb9 := c1
          refine aX_iconst (v := nI 1) dX11_solve_109 (by decide) ?_
          refine aX_goto (tgt := 114) dX11_solve_110 (by decide) ?_
          refine nAdd dX11_solve_114 ?_
          refine pI dX11_solve_115 lfX11_243 (fun _ _ _ hq => by cases hq; exact Or.inl rfl) s159 rfl ?_
          obtain ⟨I3, hI3⟩ : ∃ z, z = (aU (aU I1 186 i (bI (b))) 159 32 (nI ((jCnt (loF s r w) i) + 1))) := ⟨_, rfl⟩
          rw [← hI3]
          have h32' : I3 159 32 = nI (jCnt (loF s r w) (i + 1)) := by
            rw [hI3, aU_s]
            show _ = nI (if loF s r w i then jCnt (loF s r w) i + 1 else jCnt (loF s r w) i)
            rw [← hbl, hb9]; rfl
          refine nInc (lv' := [(0, .ref 159), (1, .int (nI (i + 1))), (2, .int (bI (b))), (3, .int (nI (jVn s)))]) dX11_solve_118 rfl rfl (by decide) rfl ?_
          refine aX_goto (tgt := 33) dX11_solve_121 (by decide) ?_
          refine aX_lv (lv' := [(0, .ref 159), (1, .int (nI (i + 1)))]) [0, 1] rfl ?_
          exact ih (jVn s - (i + 1)) (by omega) (i + 1) (by omega) rfl I3 (Or.inr hw4) (fun a ha => by
            rw [hI3, aU_n (by omega)]
            by_cases e : a = i
            · rw [e, aU_s, hbl]
            · rw [aU_n (by omega)]; exact h186 a (by omega)) (fun a h1 h2 => by rw [hI3, aU_n (by omega), aU_n (by omega)]; exact h186b a (by omega) h2) h32' (fun q j g1 g2 => by rw [hI3, aU_n (by omega), aU_n (by omega)]; exact hk q j g1 g2)
set_option maxHeartbeats 1000000 in
theorem ml_sPr {I : Nat → Nat → Int32} {L : Nat → Nat → Int64} {R : Nat → Nat → Option Nat} (hR : aRf R) {n : Nat} (hn : I 159 21 = nI n) (hn20 : n ≤ 20) {S : jQt} {lo : Nat → Bool} {ev : Nat → Nat} (hS : rsRep L n S) (hlo : ∀ i, i < n → I 186 i = bI (lo i)) (hev : ∀ i, i < n → I 184 i = nI (ev i) ∧ ev i < 2147483648) (hbd : sBd S n) {X Yf : Nat → Int} {D : Int} (hDe : D = dt n (lsA S lo)) (hD0 : 0 < D) (hDl : D < 2 ^ 264) (hXn : X n = - dt n (lsA S lo)) (hX : ∀ i, i < n → sm n (fun j => lsA S lo i j * X j) + lsB S lo ev i * X n = 0) (hYf : ∀ a, (a < n ∨ a = 20 ∨ a = 21) → yU n X (dt n (lsA S lo)) (S.2.2 * dt n (lsA S lo) - sm n (fun i => S.2.1 i * X i)) a = Yf a) {Q : Option Value → aH → Prop} (kk : ∀ (I2 : Nat → Nat → Int32) (L2 : Nat → Nat → Int64) (k pc : Nat) (P m b : Nat → Nat), I2 159 34 = nI pc → pc ≤ 22 → k ≤ pc → prP L2 pc P → rgOk L2 n k 14 P m b Yf D → (∀ q j, ¬ (q = 159 ∧ (j = 36 ∨ j = 34)) → I2 q j = I q j) → (∀ q j, (q < 187 ∨ 190 < q) → L2 q j = L q j) → aX mX11_solve aE0 (sh0, I2, L2, R) 188 [(0, .ref 159), (1, .int (nI k))] [] 0 0 Q) : ∀ (k9 k : Nat), k ≤ 22 → 22 - k = k9 → ∀ (I1 : Nat → Nat → Int32) (L1 : Nat → Nat → Int64) (g pc : Nat) (P m b : Nat → Nat), I1 159 36 = nI g → I1 159 34 = nI pc → pc ≤ 22 → k ≤ pc → prP L1 pc P → rgOk L1 n k g P m b Yf D → (∀ q j, ¬ (q = 159 ∧ (j = 36 ∨ j = 34)) → I1 q j = I q j) → (∀ q j, (q < 187 ∨ 190 < q) → L1 q j = L q j) → aX mX11_solve aE0 (sh0, I1, L1, R) 131 [(0, .ref 159), (1, .int (nI (k)))] [] 0 0 Q := by
  intro k9
  induction k9 using Nat.strongRecOn with
  | _ k9 ih =>
    intro k hi hk9 I1  L1  g pc  P m b  h36 h34 hpc hkp hP hrg hkI hkL
    have hgg := hrg.2.1
    refine aX_aload_n dX11_solve_131 rfl ?_
    refine aX_get (v := .int (nI (g))) dX11_solve_132 lfX11_237 s159 (congrArg Value.int (h36)) ?_
    refine aX_bipush (v := nI 14) dX11_solve_135 (by decide) ?_
    refine nGe (tgt := 188) dX11_solve_137 (by decide) (by first | omega | exact Nat.lt_of_le_of_lt (Nat.mod_le _ _) (by omega)) (by first | omega | exact Nat.lt_of_le_of_lt (Nat.mod_le _ _) (by omega)) (fun c1 => ?_) (fun c1 => ?_)
    · obtain rfl : g = 14 := by have := hrg.2.1; omega
      exact kk I1 L1 k pc P m b h34 hpc hkp hP hrg hkI hkL
    · have hg14 : g < 14 := c1
      have hkf := rg_few hrg hP hpc hkp hD0 hDl
      refine aX_iload_n dX11_solve_140 rfl ?_
      refine aX_aload_n dX11_solve_141 rfl ?_
      refine aX_get (v := .int (nI (pc))) dX11_solve_142 lfX11_217 s159 (congrArg Value.int (h34)) ?_
      refine nNe (tgt := 171) dX11_solve_145 (by decide) (by first | omega | exact Nat.lt_of_le_of_lt (Nat.mod_le _ _) (by omega)) (by first | omega | exact Nat.lt_of_le_of_lt (Nat.mod_le _ _) (by omega)) (fun c2 => ?_) (fun c2 => ?_)
      · have hkl : k < pc := by omega
        refine aX_aload_n dX11_solve_171 rfl ?_
        refine aX_aload_n dX11_solve_172 rfl ?_
        refine aX_get dX11_solve_173 lfX11_101 s159 (f159_35 hR) ?_
        refine aX_iload_n dX11_solve_176 rfl ?_
        refine nLald (v := lN (P k)) dX11_solve_177 s187 (by first | omega | exact Nat.lt_of_le_of_lt (Nat.mod_le _ _) (by omega)) (by decide) ((hP.1 k hkl).1) ?_
        have hbig := prP_big hP hpc hkl
        refine cV (As := [.long (lN (P k))]) (st := []) dX11_solve_178 kX11_solve_250 s159 aEok0 rfl rfl (Nat.le_of_ble_eq_true rfl) (m_byPrime hR ((hkI 159 21 (by omega)).trans hn) hn20 (by omega) (by omega) ⟨fun i j hi hj => (hkL 182 _ (by omega)).trans (hS.1 i j hi hj), fun i hi => (hkL 183 _ (by omega)).trans (hS.2.1 i hi), (hkL 159 33 (by omega)).trans hS.2.2⟩ (fun i hi => (hkI 186 i (by omega)).trans (hlo i hi)) (fun i hi => ⟨(hkI 184 i (by omega)).trans (hev i hi).1, (hev i hi).2⟩) hbd h36 hg14 hbig.1 hXn hX) (fun ans' h' hq9 => ?_)
        obtain ⟨L3, hfr, hor⟩ := hq9
        rcases hor with ⟨rfl, rfl, e1, e2⟩ | ⟨rfl, rfl, e2⟩
        · refine ⟨rfl, ?_⟩
          refine aX_istore_n (lv' := [(0, .ref 159), (1, .int (nI (k))), (2, .int (nI (1)))]) dX11_solve_181 (by decide) rfl ?_
          refine nInc (lv' := [(0, .ref 159), (1, .int (nI (k + 1))), (2, .int (nI (1)))]) dX11_solve_182 rfl rfl (by decide) rfl ?_
          refine aX_goto (tgt := 131) dX11_solve_185 (by decide) ?_
          refine aX_lv (lv' := [(0, .ref 159), (1, .int (nI (k + 1)))]) [0, 1] rfl ?_
          exact ih (22 - (k + 1)) (by omega) (k + 1) (by omega) rfl _ L3 (g + 1) pc P _ b (by rw [aU_s]) (by rw [aU_n (by omega)]; exact h34) hpc (by omega) ⟨fun a ha => by rw [hfr 187 a (by omega) (by omega) (by omega)]; exact hP.1 a ha, hP.2⟩ (rg_good hrg hg14 hP hkl (fun j hj => hfr 188 j (by omega) (by omega) (by omega)) (fun j hj => hfr 189 j (by omega) (by omega) (by omega)) hn20 e1 (fun a ha => by rw [← hYf a ha]; exact e2 a ha)) (fun q j a => by rw [aU_n (by omega)]; exact hkI q j a) (fun q j a => (hfr q j (by omega) (by omega) (by omega)).trans (hkL q j a))
        · refine ⟨rfl, ?_⟩
          refine aX_istore_n (lv' := [(0, .ref 159), (1, .int (nI (k))), (2, .int (nI (0)))]) dX11_solve_181 (by decide) rfl ?_
          refine nInc (lv' := [(0, .ref 159), (1, .int (nI (k + 1))), (2, .int (nI (0)))]) dX11_solve_182 rfl rfl (by decide) rfl ?_
          refine aX_goto (tgt := 131) dX11_solve_185 (by decide) ?_
          refine aX_lv (lv' := [(0, .ref 159), (1, .int (nI (k + 1)))]) [0, 1] rfl ?_
          exact ih (22 - (k + 1)) (by omega) (k + 1) (by omega) rfl _ L3 g pc P m _ h36 h34 hpc (by omega) ⟨fun a ha => by rw [hfr 187 a (by omega) (by omega) (by omega)]; exact hP.1 a ha, hP.2⟩ (rg_bad hrg hP hkl (fun j hj => hfr 188 j (by omega) (by omega) (by omega)) (fun j hj => hfr 189 j (by omega) (by omega) (by omega)) hn20 (by rw [hDe]; exact e2)) (hkI) (fun q j a => (hfr q j (by omega) (by omega) (by omega)).trans (hkL q j a))
      · have hkp2 : k = pc := c2
        refine aX_aload_n dX11_solve_148 rfl ?_
        refine aX_get dX11_solve_149 lfX11_101 s159 (f159_35 hR) ?_
        refine aX_aload_n dX11_solve_152 rfl ?_
        refine aX_get (v := .int (nI (pc))) dX11_solve_153 lfX11_217 s159 (congrArg Value.int (h34)) ?_
        refine aX_aload_n dX11_solve_156 rfl ?_
        refine cV (As := []) (st := [.int (nI (pc)), .ref 187]) dX11_solve_157 kX11_solve_246 s159 aEok0 rfl rfl (Nat.le_of_ble_eq_true rfl) (m_nextPrime hR h34 (by omega) hP.1) (fun ans' h' hq9 => ?_)
        obtain ⟨rfl, q9, rfl, n1, n2, n3, n4, n5⟩ := hq9
        refine ⟨rfl, ?_⟩
        refine nLast dX11_solve_160 s187 (by first | omega | exact Nat.lt_of_le_of_lt (Nat.mod_le _ _) (by omega)) (by decide) ?_
        refine aX_aload_n dX11_solve_161 rfl ?_
        refine aX_dup dX11_solve_162 rfl ?_
        refine aX_get (v := .int (nI (pc))) dX11_solve_163 lfX11_217 s159 (congrArg Value.int (h34)) ?_
        refine aX_iconst (v := nI 1) dX11_solve_166 (by decide) ?_
        refine nAdd dX11_solve_167 ?_
        refine pI dX11_solve_168 lfX11_217 (fun _ _ _ hq => by cases hq; exact Or.inl rfl) s159 rfl ?_
        obtain ⟨I4, hI4⟩ : ∃ z, z = (aU I1 159 34 (nI (pc + 1))) := ⟨_, rfl⟩
        obtain ⟨L4, hL4⟩ : ∃ z, z = (aU L1 187 pc (lN (q9))) := ⟨_, rfl⟩
        rw [← hI4, ← hL4]
        have hP4 : prP L4 (pc + 1) (va_up P pc q9) := prP_push hP n1 n2 n3 n4 n5 (fun a ha => by rw [hL4, aU_n (by omega)]) (by rw [hL4, aU_s])
        have hrg4 : rgOk L4 n k g (va_up P pc q9) m b Yf D := rg_ext hrg hkp (fun j => by rw [hL4, aU_n (by omega)]) (fun j => by rw [hL4, aU_n (by omega)])
        have h344 : I4 159 34 = nI (pc + 1) := by rw [hI4, aU_s]
        have h364 : I4 159 36 = nI g := by rw [hI4, aU_n (by omega)]; exact h36
        have hkI4 : (∀ q j, ¬ (q = 159 ∧ (j = 36 ∨ j = 34)) → I4 q j = I q j) := fun q j a => by rw [hI4, aU_n (by omega)]; exact hkI q j a
        have hkL4 : (∀ q j, (q < 187 ∨ 190 < q) → L4 q j = L q j) := fun q j a => by rw [hL4, aU_n (by omega)]; exact hkL q j a
        have hpc4 : pc + 1 ≤ 22 := by omega
        have hkl4 : k < pc + 1 := by omega
        refine aX_aload_n dX11_solve_171 rfl ?_
        refine aX_aload_n dX11_solve_172 rfl ?_
        refine aX_get dX11_solve_173 lfX11_101 s159 (f159_35 hR) ?_
        refine aX_iload_n dX11_solve_176 rfl ?_
        refine nLald (v := lN ((va_up P pc q9) k)) dX11_solve_177 s187 (by first | omega | exact Nat.lt_of_le_of_lt (Nat.mod_le _ _) (by omega)) (by decide) ((hP4.1 k hkl4).1) ?_
        have hbig := prP_big hP4 hpc4 hkl4
        refine cV (As := [.long (lN ((va_up P pc q9) k))]) (st := []) dX11_solve_178 kX11_solve_250 s159 aEok0 rfl rfl (Nat.le_of_ble_eq_true rfl) (m_byPrime hR ((hkI4 159 21 (by omega)).trans hn) hn20 (by omega) (by omega) ⟨fun i j hi hj => (hkL4 182 _ (by omega)).trans (hS.1 i j hi hj), fun i hi => (hkL4 183 _ (by omega)).trans (hS.2.1 i hi), (hkL4 159 33 (by omega)).trans hS.2.2⟩ (fun i hi => (hkI4 186 i (by omega)).trans (hlo i hi)) (fun i hi => ⟨(hkI4 184 i (by omega)).trans (hev i hi).1, (hev i hi).2⟩) hbd h364 hg14 hbig.1 hXn hX) (fun ans' h' hq9 => ?_)
        obtain ⟨L3, hfr, hor⟩ := hq9
        rcases hor with ⟨rfl, rfl, e1, e2⟩ | ⟨rfl, rfl, e2⟩
        · refine ⟨rfl, ?_⟩
          refine aX_istore_n (lv' := [(0, .ref 159), (1, .int (nI (k))), (2, .int (nI (1)))]) dX11_solve_181 (by decide) rfl ?_
          refine nInc (lv' := [(0, .ref 159), (1, .int (nI (k + 1))), (2, .int (nI (1)))]) dX11_solve_182 rfl rfl (by decide) rfl ?_
          refine aX_goto (tgt := 131) dX11_solve_185 (by decide) ?_
          refine aX_lv (lv' := [(0, .ref 159), (1, .int (nI (k + 1)))]) [0, 1] rfl ?_
          exact ih (22 - (k + 1)) (by omega) (k + 1) (by omega) rfl _ L3 (g + 1) (pc + 1) (va_up P pc q9) _ b (by rw [aU_s]) (by rw [aU_n (by omega)]; exact h344) hpc4 (by omega) ⟨fun a ha => by rw [hfr 187 a (by omega) (by omega) (by omega)]; exact hP4.1 a ha, hP4.2⟩ (rg_good hrg4 hg14 hP4 hkl4 (fun j hj => hfr 188 j (by omega) (by omega) (by omega)) (fun j hj => hfr 189 j (by omega) (by omega) (by omega)) hn20 e1 (fun a ha => by rw [← hYf a ha]; exact e2 a ha)) (fun q j a => by rw [aU_n (by omega)]; exact hkI4 q j a) (fun q j a => (hfr q j (by omega) (by omega) (by omega)).trans (hkL4 q j a))
        · refine ⟨rfl, ?_⟩
          refine aX_istore_n (lv' := [(0, .ref 159), (1, .int (nI (k))), (2, .int (nI (0)))]) dX11_solve_181 (by decide) rfl ?_
          refine nInc (lv' := [(0, .ref 159), (1, .int (nI (k + 1))), (2, .int (nI (0)))]) dX11_solve_182 rfl rfl (by decide) rfl ?_
          refine aX_goto (tgt := 131) dX11_solve_185 (by decide) ?_
          refine aX_lv (lv' := [(0, .ref 159), (1, .int (nI (k + 1)))]) [0, 1] rfl ?_
          exact ih (22 - (k + 1)) (by omega) (k + 1) (by omega) rfl _ L3 g (pc + 1) (va_up P pc q9) m _ h364 h344 hpc4 (by omega) ⟨fun a ha => by rw [hfr 187 a (by omega) (by omega) (by omega)]; exact hP4.1 a ha, hP4.2⟩ (rg_bad hrg4 hP4 hkl4 (fun j hj => hfr 188 j (by omega) (by omega) (by omega)) (fun j hj => hfr 189 j (by omega) (by omega) (by omega)) hn20 (by rw [hDe]; exact e2)) (hkI4) (fun q j a => (hfr q j (by omega) (by omega) (by omega)).trans (hkL4 q j a))
set_option maxHeartbeats 1000000 in
theorem m10_solve {I : Nat → Nat → Int32} {L : Nat → Nat → Int64} {R : Nat → Nat → Option Nat} (hR : aRf R) {z : jZ} (hz : mmRep I L z) : aM mX11_solve [.ref 159] (sh0, I, L, R) (fun ans h' => ans = some (.int (oSolve z).1) ∧ ∃ I' L', h' = (sh0, I', L', R) ∧ mmRep I' L' (oSolve z).2 ∧ mmK I I' ∧ mmKL L L') := by
  obtain ⟨hs, ho, h6, hl, hg, hw, hS, hcn, h12, h13, hpc, hcz, hpz, hpr, htx⟩ := id hz
  have hn := ho.1
  have hSl := jS_len z.1
  have hvl := jVn_lt hn
  refine aM_of plX11_solve (Nat.le_of_ble_eq_true rfl) ?_
  refine aX_aload_n dX11_solve_0 rfl ?_
  refine aX_get (v := .int (bI (z.2.2.2.1))) dX11_solve_1 lfX11_143 s159 (congrArg Value.int (h12)) ?_
  refine bNe (tgt := 10) dX11_solve_4 (by decide) (fun c1 => ?_) (fun c1 => ?_)
  · refine aX_aload_n dX11_solve_10 rfl ?_
    refine aX_get (v := .int (nI (jVn z.1))) dX11_solve_11 lfX11_160 s159 (congrArg Value.int (hcn.1)) ?_
    refine aX_bipush (v := nI 20) dX11_solve_14 (by decide) ?_
    refine nLe (tgt := 22) dX11_solve_16 (by decide) (by first | omega | exact Nat.lt_of_le_of_lt (Nat.mod_le _ _) (by omega)) (by first | omega | exact Nat.lt_of_le_of_lt (Nat.mod_le _ _) (by omega)) (fun c2 => ?_) (fun c2 => ?_)
    · have hvn : jVn z.1 ≤ 20 := c2
      refine aX_aload_n dX11_solve_22 rfl ?_
      refine cV (As := []) (st := []) dX11_solve_23 kX11_solve_240 s159 aEok0 rfl rfl (Nat.le_of_ble_eq_true rfl) (m_build hR hs ho hS hl hg hw hcn (hcz c1).1 (hcz c1).2 hvn) (fun ans' h' hq9 => ?_)
      obtain ⟨rfl, I2, L2, rfl, ⟨S, f, b1, b2, b3, b4⟩, heq2, h2, hkI2, hkL2⟩ := hq9
      refine ⟨rfl, ?_⟩
      have hA : ∀ i j, S.1 i j = tA (jT z.1 z.2.1 (jChs z.1 z.2.1 z.2.2.1) z.2.2.1) (jE z.1) (z.2.2.1 4 : Int) i j := fun i j => (b2.1 i j).trans (rT_A hl.1 hg i j)
      have hB : ∀ i, S.2.1 i = tB' (jT z.1 z.2.1 (jChs z.1 z.2.1 z.2.2.1) z.2.2.1) (jE z.1) (z.2.2.1 4 : Int) (eqOf z.1) i := fun i => (b2.2.1 i).trans (rT_B hl.1 hg i)
      have hC : S.2.2 = tC' (jT z.1 z.2.1 (jChs z.1 z.2.1 z.2.2.1) z.2.2.1) (jE z.1) (z.2.2.1 4 : Int) (eqOf z.1) := b2.2.2.trans (rT_C hl.1 hg)
      refine aX_aload_n dX11_solve_26 rfl ?_
      refine aX_iconst (v := nI 0) dX11_solve_27 (by decide) ?_
      refine pI dX11_solve_28 lfX11_243 (fun _ _ _ hq => by cases hq; exact Or.inl rfl) s159 rfl ?_
      refine aX_iconst (v := nI 0) dX11_solve_31 (by decide) ?_
      refine aX_istore_n (lv' := [(0, .ref 159), (1, .int (nI (0)))]) dX11_solve_32 (by decide) rfl ?_
      obtain ⟨I3, hI3⟩ : ∃ q9, q9 = aU I2 159 32 (nI 0) := ⟨_, rfl⟩
      rw [← hI3]
      have hk3 : ∀ q j, ¬ (q = 159 ∧ j = 32) → I3 q j = I2 q j := fun q j a => by rw [hI3, aU_n a]
      refine ml_sLo hR (s := z.1) (r := z.2.1) (w := z.2.2.1) hl.1 hg (mwRep_of (fun j => (hk3 170 j (by omega)).trans (hkI2 170 j (by omega))) hw) ((hk3 159 21 (by omega)).trans ((hkI2 159 21 (by omega)).trans hcn.1)) hvn (f := f) (fun a ha => ⟨(hk3 185 a (by omega)).trans (b3 a ha).1, (b3 a ha).2⟩) b4 (fun I4 h186 h32 hk4 => ?_) _ 0 (by omega) rfl I3 (Or.inl rfl) (fun a h => by omega) (fun a _ ha => (hk3 186 a (by omega)).trans (h2 a ha)) (by rw [hI3, aU_s]; rfl) (fun _ _ _ _ => rfl)
      have hkI4 : ∀ q j, ¬ (q = 159 ∧ j = 32) → (q < 184 ∨ 186 < q) → I4 q j = I q j := fun q j a1 a2 => (hk4 q j (by omega) a1).trans ((hk3 q j a1).trans (hkI2 q j a2))
      refine aX_aload_n dX11_solve_124 rfl ?_
      refine aX_iconst (v := nI 0) dX11_solve_125 (by decide) ?_
      refine pI dX11_solve_126 lfX11_237 (fun _ _ _ hq => by cases hq; exact Or.inl rfl) s159 rfl ?_
      refine aX_iconst (v := nI 0) dX11_solve_129 (by decide) ?_
      refine aX_istore_n (lv' := [(0, .ref 159), (1, .int (nI (0)))]) dX11_solve_130 (by decide) rfl ?_
      obtain ⟨I5, hI5⟩ : ∃ q9, q9 = aU I4 159 36 (nI 0) := ⟨_, rfl⟩
      rw [← hI5]
      have hk5 : ∀ q j, ¬ (q = 159 ∧ j = 36) → I5 q j = I4 q j := fun q j a => by rw [hI5, aU_n a]
      obtain ⟨pc, P, r1, r2, r3, r4⟩ := hpr
      refine ml_sPr hR (n := jVn z.1) ((hk5 159 21 (by omega)).trans ((hkI4 159 21 (by omega) (by omega)).trans hcn.1)) hvn b1 (lo := loF z.1 z.2.1 z.2.2.1) (fun a ha => (hk5 186 a (by omega)).trans (h186 a ha)) (ev := eqN z.1) (fun a ha => ⟨(hk5 184 a (by omega)).trans ((hk4 184 a (by omega) (by omega)).trans ((hk3 184 a (by omega)).trans (heq2 a ha))), by have := (eq_in ho ha).2; rw [eqOf_N] at this; omega⟩) (ref_bd ho h6 hl.1 hg hw.1 hA hB hC) (X := yX z.1 z.2.1 z.2.2.1) (Yf := yP z.1 z.2.1 z.2.2.1) (D := zD z.1 z.2.1 (jChs z.1 z.2.1 z.2.2.1) z.2.2.1) (ref_D hl.1 hg hw.1 hA).symm (zD_pos hl.1 hg hw.1) (zD_lt h6 hl.1 hg hw.1 hvn) (by rw [yX_n, ref_D hl.1 hg hw.1 hA]) (fun i hi => ref_X hl.1 hg hw.1 hA hB hi) (fun a ha => ref_Y hl.1 hg hw.1 hvn hA hB hC ha) (fun I6 L6 k6 pc6 P6 m6 b6 q1 q2 q3 q4 q5 q6 q7 => ?_) _ 0 (by omega) rfl I5 L2 0 pc P (fun _ => 0) (fun _ => 0) (by rw [hI5, aU_s]) ((hk5 159 34 (by omega)).trans ((hkI4 159 34 (by omega) (by omega)).trans r1)) r2 (by omega) ⟨fun k hk => ⟨(hkL2 187 k (by omega)).trans (r3 k hk).1, (r3 k hk).2⟩, r4⟩ ⟨by omega, by omega, fun j h => by omega, fun i j h => by omega, fun j h => by omega, fun j h => by omega, fun i j h => by omega⟩ (fun _ _ _ => rfl) (fun _ _ _ => rfl)
      have hkI6 : ∀ q j, ¬ (q = 159 ∧ (j = 32 ∨ j = 34 ∨ j = 36)) → (q < 184 ∨ 186 < q) → I6 q j = I q j := fun q j a1 a2 => (q6 q j (by omega)).trans ((hk5 q j (by omega)).trans (hkI4 q j (by omega) a2))
      obtain ⟨g1, g2, g3, g4, g5, g6, g7⟩ := q5
      have hso : oSolve z = (nI (jVn z.1), z.1, z.2.1, z.2.2.1, true, true, z.2.2.2.2.2) := by unfold oSolve; rw [if_pos c1, if_neg (by omega)]
      refine aX_aload_n dX11_solve_188 rfl ?_
      refine aX_iconst (v := nI 1) dX11_solve_189 (by decide) ?_
      refine pZ (b := true) dX11_solve_190 lfX11_147 (fun _ _ _ hq => by cases hq; exact Or.inl rfl) s159 rfl ?_
      refine aX_aload_n dX11_solve_193 rfl ?_
      refine aX_get (v := .int (nI (jVn z.1))) dX11_solve_194 lfX11_160 s159 (congrArg Value.int (show (aU I6 159 13 (bI (true))) 159 21 = nI (jVn z.1) by rw [aU_n (by omega)]; exact (hkI6 159 21 (by omega) (by omega)).trans hcn.1)) ?_
      exact rI dX11_solve_197 rfl (by
              rw [hso]
              have hk7 : ∀ q j, ¬ (q = 159 ∧ (j = 13 ∨ j = 32 ∨ j = 34 ∨ j = 36)) → (q < 184 ∨ 186 < q) → aU I6 159 13 (bI true) q j = I q j := fun q j a1 a2 => by rw [aU_n (by omega)]; exact hkI6 q j (by omega) a2
              refine ⟨rfl, _, L6, rfl, ⟨mnRep_of (fun q j g => hk7 q j (by omega) (by omega)) hs, ho, h6, mlRep_of (fun q j _ _ => hk7 q j (by omega) (by omega)) hl, hg, mwRep_of (fun j => hk7 170 j (by omega) (by omega)) hw, msRep_of (fun q j g => hk7 q j (by omega) (by omega)) hS, mcRep_of (fun q j g => hk7 q j (by omega) (by omega)) hcn, (hk7 159 12 (by omega) (by omega)).trans (h12.trans (by rw [c1])), by rw [aU_s], fun _ => rfl, fun _ => ⟨(hcz c1).1, fun k hk => (hk7 179 k (by omega) (by omega)).trans ((hcz c1).2 k hk)⟩, fun _ => ⟨hvn, ?_, m6, fun k hk => ?_, g4, g5⟩, ⟨pc6, P6, ?_, q2, q4.1, q4.2⟩, mtRep_of (fun q j g => hk7 q j (by omega) (by omega)) htx⟩, fun q j g => hk7 q j (by omega) (by omega), fun q j g => (q7 q j (by omega)).trans (hkL2 q j (by omega))⟩
              · rw [aU_n (by omega)]; exact (q6 159 32 (by omega)).trans ((hk5 159 32 (by omega)).trans h32)
              · obtain ⟨a1, a, ha, ea⟩ := g3 k hk
                have hb := prP_big q4 q2 (a := a) (by omega)
                rw [← ea] at hb
                exact ⟨a1, hb⟩
              · rw [aU_n (by omega)]; exact q1)
    · have hvn : 20 < jVn z.1 := c2
      refine aX_bipush (v := (-3)) dX11_solve_19 (by decide) ?_
      exact rI dX11_solve_21 rfl (by rw [show oSolve z = (-3, z) by unfold oSolve; rw [if_pos c1, if_pos hvn]]; exact ⟨rfl, I, L, rfl, hz, fun _ _ _ => rfl, fun _ _ _ => rfl⟩)
  · refine aX_bipush (v := (-2)) dX11_solve_7 (by decide) ?_
    exact rI dX11_solve_9 rfl (by rw [show oSolve z = (-2, z) by unfold oSolve; rw [if_neg (by simp [c1])]]; exact ⟨rfl, I, L, rfl, hz, fun _ _ _ => rfl, fun _ _ _ => rfl⟩)
