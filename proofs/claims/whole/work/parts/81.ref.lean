/-! THE REFERENCE: choose as a whole -/
theorem tgAll_of {I I' : Nat → Nat → Int32} {s : jN} {r : jR} {k : Nat} (h : ∀ j, I' 181 j = I 181 j) (ht : tgAll I s r k) : tgAll I' s r k := fun k q rd m a b c d e => (h _).trans (ht k q rd m a b c d e)
set_option maxHeartbeats 1000000 in
theorem mc_p4 {I : Nat → Nat → Int32} {L : Nat → Nat → Int64} {R : Nat → Nat → Option Nat} (hR : aRf R) {s : jN} (hs : mnRep I s) (ho : jOk s) (h6 : jSix s) (hS : msRep I s (jS s)) {r : jR} (hl : mlRep I r) (hcn : mcRep I s r) (hg : rGood r) {w : jW} (hw : mwRep I w) (hcz : ∀ (k : Nat) (q : Nat × Nat), (jS s)[k]? = some q → 0 < jCo s r q.1 ∧ jCo s r q.1 ≤ 64) (htg : tgAll I s r (jS s).length) (h0 : 0 < (jS s).length) (hls : lsAll L s r w 0) {Q : Option Value → aH → Prop} (kk : ∀ I2 : Nat → Nat → Int32, (∀ j, j < (jS s).length → I2 179 j = nI (jChs s r w j)) → (∀ q j, q ≠ 179 → I2 q j = I q j) → aX mX11_choose aE0 (sh0, I2, L, R) 474 [(0, .ref 159), (1, .int (bI true)), (2, .int (bI false)), (3, .long (jCost s r w ((jS s).length - 1) (jChs s r w 0))), (5, .int (nI (jS s).length))] [] 0 0 Q) : ∀ (k9 k : Nat), k ≤ (jS s).length → ((jS s).length) - k = k9 → ∀ (I1 : Nat → Nat → Int32) (cst : Int64), (k = 0 ∨ cst = jCost s r w ((jS s).length - 1) (jChs s r w 0)) → (∀ j, j < k → I1 179 j = nI (jChs s r w j)) → (∀ q j, q ≠ 179 → I1 q j = I q j) → aX mX11_choose aE0 (sh0, I1, L, R) 338 [(0, .ref 159), (1, .int (bI (true))), (2, .int (bI (false))), (3, .long (cst)), (5, .int (nI (k)))] [] 0 0 Q := by
  intro k9
  induction k9 using Nat.strongRecOn with
  | _ k9 ih =>
    intro k hi hk9 I1  cst  hcs h179 hk1
    have hn := ho.1
    have hSl := jS_len s
    have hpp : ∀ k, k < (jS s).length → 0 < jCn s r k := fun k hk => by
      obtain ⟨q, hq⟩ : ∃ q, (jS s)[k]? = some q := ⟨_, List.getElem?_eq_getElem hk⟩
      rw [jCn_q hq (hcz k q hq).2]; exact (hcz k q hq).1
    have hw0 := hw.1.1
    have hw1 := hw.1.2 1 (by decide) (by decide)
    have hs1 : mnRep I1 s := mnRep_of (fun q j g => hk1 q j (by omega)) hs
    have hS1 : msRep I1 s (jS s) := msRep_of (fun q j g => hk1 q j (by omega)) hS
    have hl1 : mlRep I1 r := mlRep_of (fun q j _ _ => hk1 q j (by omega)) hl
    have hcn1 : mcRep I1 s r := mcRep_of (fun q j g => hk1 q j (by omega)) hcn
    have hw1r : mwRep I1 w := mwRep_of (fun j => hk1 170 j (by omega)) hw
    have htg1 : tgAll I1 s r (jS s).length := tgAll_of (fun j => hk1 181 j (by omega)) htg
    refine aX_iload dX11_choose_338 rfl ?_
    refine aX_aload_n dX11_choose_340 rfl ?_
    refine aX_get (v := .int (nI ((jS s).length))) dX11_choose_341 lfX11_154 s159 (congrArg Value.int (hS1.1)) ?_
    refine nGe (tgt := 474) dX11_choose_344 (by decide) (by first | omega | exact Nat.lt_of_le_of_lt (Nat.mod_le _ _) (by omega)) (by first | omega | exact Nat.lt_of_le_of_lt (Nat.mod_le _ _) (by omega)) (fun c1 => ?_) (fun c1 => ?_)
    · obtain rfl : k = (jS s).length := by omega
      have hcc : cst = jCost s r w ((jS s).length - 1) (jChs s r w 0) := hcs.resolve_left (by omega)
      rw [hcc]
      exact kk I1 h179 hk1
    · have hkl : k < (jS s).length := c1
      refine aX_lconst (v := 0) dX11_choose_347 rfl ?_
      refine aX_lstore (lv' := [(0, .ref 159), (1, .int (bI (true))), (2, .int (bI (false))), (3, .long (cst)), (5, .int (nI (k))), (6, .long ((0 : Int64)))]) dX11_choose_348 (by decide) rfl ?_
      refine aX_iconst (v := nI 0) dX11_choose_350 (by decide) ?_
      refine aX_istore (lv' := [(0, .ref 159), (1, .int (bI (true))), (2, .int (bI (false))), (3, .long (cst)), (5, .int (nI (k))), (6, .long ((0 : Int64))), (8, .int (nI (0)))]) dX11_choose_351 (by decide) rfl ?_
      refine aX_iconst (v := nI 0) dX11_choose_353 (by decide) ?_
      refine aX_istore (lv' := [(0, .ref 159), (1, .int (bI (true))), (2, .int (bI (false))), (3, .long (cst)), (5, .int (nI (k))), (6, .long ((0 : Int64))), (8, .int (nI (0))), (9, .int (nI (0)))]) dX11_choose_354 (by decide) rfl ?_
      cases k with
      | zero =>
        obtain ⟨q, hq⟩ : ∃ q, (jS s)[0]? = some q := ⟨_, List.getElem?_eq_getElem hkl⟩
        have hcq := hcz (0) q hq
        have hch : jChs s r w 0 = jArg (jCost s r w ((jS s).length - 1 - 0)) (jCo s r q.1) := by show jArg _ (jCn s r 0) = _; rw [jCn_q hq hcq.2]; rfl
        refine mc_p4a hR (k := 0) hs1 ho h6 hS1 hl1 hcn1 hg hw1r hcz htg1 hq (f := jCost s r w ((jS s).length - 1 - 0)) rfl hls ?_ _ 0 (by omega) rfl
        refine aX_aload_n dX11_choose_447 rfl ?_
        refine aX_get dX11_choose_448 lfX11_75 s159 (f159_24 hR) ?_
        refine aX_iload dX11_choose_451 rfl ?_
        refine aX_iload dX11_choose_453 rfl ?_
        refine nIast dX11_choose_455 s179 (by first | omega | exact Nat.lt_of_le_of_lt (Nat.mod_le _ _) (by omega)) (by decide) ?_
        refine aX_iload dX11_choose_456 rfl ?_
        refine nIf_ne (tgt := 466) dX11_choose_458 (by decide) (by first | omega | exact Nat.lt_of_le_of_lt (Nat.mod_le _ _) (by omega)) (fun c1 => ?_) (fun c1 => ?_)
        · exact absurd c1 (by omega)
        · refine aX_lload dX11_choose_461 rfl ?_
          refine aX_goto (tgt := 467) dX11_choose_463 (by decide) ?_
          refine aX_lstore_n (lv' := [(0, .ref 159), (1, .int (bI (true))), (2, .int (bI (false))), (3, .long (bsA (jCost s r w ((jS s).length - 1 - 0)) (jCo s r q.1))), (5, .int (nI (0))), (6, .long (bsA (jCost s r w ((jS s).length - 1 - 0)) (jCo s r q.1))), (8, .int (nI (jArg (jCost s r w ((jS s).length - 1 - 0)) (jCo s r q.1)))), (9, .int (nI (jCo s r q.1)))]) dX11_choose_467 (by decide) rfl ?_
          refine nInc (lv' := [(0, .ref 159), (1, .int (bI (true))), (2, .int (bI (false))), (3, .long (bsA (jCost s r w ((jS s).length - 1 - 0)) (jCo s r q.1))), (5, .int (nI (0 + 1))), (6, .long (bsA (jCost s r w ((jS s).length - 1 - 0)) (jCo s r q.1))), (8, .int (nI (jArg (jCost s r w ((jS s).length - 1 - 0)) (jCo s r q.1)))), (9, .int (nI (jCo s r q.1)))]) dX11_choose_468 rfl rfl (by decide) rfl ?_
          refine aX_goto (tgt := 338) dX11_choose_471 (by decide) ?_
          refine aX_lv (lv' := [(0, .ref 159), (1, .int (bI (true))), (2, .int (bI (false))), (3, .long (bsA (jCost s r w ((jS s).length - 1 - 0)) (jCo s r q.1))), (5, .int (nI (0 + 1)))]) [0, 1, 2, 3, 4] rfl ?_
          exact ih ((jS s).length - (0 + 1)) (by omega) (0 + 1) (by omega) rfl _ _ (Or.inr (by unfold bsA; rw [if_neg (by omega), hch]; rfl)) (fun j hj => by
            by_cases e : j = 0
            · rw [e, aU_s, hch]
            · rw [aU_n (by omega)]; exact h179 j (by omega)) (fun q j g => by rw [aU_n (by omega)]; exact hk1 q j g)
      | succ k =>
        obtain ⟨q, hq⟩ : ∃ q, (jS s)[k + 1]? = some q := ⟨_, List.getElem?_eq_getElem hkl⟩
        have hcq := hcz (k + 1) q hq
        obtain ⟨q0, hq0⟩ : ∃ q0, (jS s)[k]? = some q0 := ⟨_, List.getElem?_eq_getElem (by omega)⟩
        have hcq0 := hcz k q0 hq0
        have hcl : jChs s r w k < jCo s r q0.1 := by have y := jChs_lt (w := w) hpp k (by omega); rw [jCn_q hq0 hcq0.2] at y; exact y
        have hch : jChs s r w (k + 1) = jArg (jGo s r w k (jChs s r w k)) (jCo s r q.1) := by show jFol s r w k (jChs s r w k) = _; rw [jFol_arg ho h6 hl.1 hg hw.1 hpp hkl, jCn_q hq hcq.2]
        refine mc_p4b hR hs1 ho h6 hS1 hl1 hcn1 hg hw1r hcz htg1 hkl hq (f := jGo s r w k (jChs s r w k)) rfl hq0 hcl (h179 k (by omega)) hls ?_ _ 0 (by omega) rfl
        refine aX_aload_n dX11_choose_447 rfl ?_
        refine aX_get dX11_choose_448 lfX11_75 s159 (f159_24 hR) ?_
        refine aX_iload dX11_choose_451 rfl ?_
        refine aX_iload dX11_choose_453 rfl ?_
        refine nIast dX11_choose_455 s179 (by first | omega | exact Nat.lt_of_le_of_lt (Nat.mod_le _ _) (by omega)) (by decide) ?_
        refine aX_iload dX11_choose_456 rfl ?_
        refine nIf_ne (tgt := 466) dX11_choose_458 (by decide) (by first | omega | exact Nat.lt_of_le_of_lt (Nat.mod_le _ _) (by omega)) (fun c1 => ?_) (fun c1 => ?_)
        · refine aX_lload_n dX11_choose_466 rfl ?_
          refine aX_lstore_n (lv' := [(0, .ref 159), (1, .int (bI (true))), (2, .int (bI (false))), (3, .long (cst)), (5, .int (nI (k + 1))), (6, .long (bsA (jGo s r w k (jChs s r w k)) (jCo s r q.1))), (8, .int (nI (jArg (jGo s r w k (jChs s r w k)) (jCo s r q.1)))), (9, .int (nI (jCo s r q.1)))]) dX11_choose_467 (by decide) rfl ?_
          refine nInc (lv' := [(0, .ref 159), (1, .int (bI (true))), (2, .int (bI (false))), (3, .long (cst)), (5, .int (nI ((k + 1) + 1))), (6, .long (bsA (jGo s r w k (jChs s r w k)) (jCo s r q.1))), (8, .int (nI (jArg (jGo s r w k (jChs s r w k)) (jCo s r q.1)))), (9, .int (nI (jCo s r q.1)))]) dX11_choose_468 rfl rfl (by decide) rfl ?_
          refine aX_goto (tgt := 338) dX11_choose_471 (by decide) ?_
          refine aX_lv (lv' := [(0, .ref 159), (1, .int (bI (true))), (2, .int (bI (false))), (3, .long (cst)), (5, .int (nI ((k + 1) + 1)))]) [0, 1, 2, 3, 4] rfl ?_
          exact ih ((jS s).length - ((k + 1) + 1)) (by omega) ((k + 1) + 1) (by omega) rfl _ _ (Or.inr (hcs.resolve_left (by omega))) (fun j hj => by
            by_cases e : j = k + 1
            · rw [e, aU_s, hch]
            · rw [aU_n (by omega)]; exact h179 j (by omega)) (fun q j g => by rw [aU_n (by omega)]; exact hk1 q j g)
        · exact absurd c1 (by omega)
set_option maxHeartbeats 1000000 in
theorem m10_choose {I : Nat → Nat → Int32} {L : Nat → Nat → Int64} {R : Nat → Nat → Option Nat} (hR : aRf R) {z : jZ} (hz : mmRep I L z) : aM mX11_choose [.ref 159] (sh0, I, L, R) (fun ans h' => ans = some (.long (oChoose z).1) ∧ ∃ I' L', h' = (sh0, I', L', R) ∧ mmRep I' L' (oChoose z).2 ∧ mmK I I' ∧ mmKL L L') := by
  obtain ⟨hs, ho, h6, hl, hg, hw, hS, hcn, h12, h13, hpc, hcz, hpz, hpr, htx⟩ := id hz
  have hn := ho.1
  have hSl := jS_len z.1
  refine aM_of plX11_choose (Nat.le_of_ble_eq_true rfl) ?_
  refine aX_aload_n dX11_choose_0 rfl ?_
  refine aX_get (v := .int (nI ((jS z.1).length))) dX11_choose_1 lfX11_154 s159 (congrArg Value.int (hS.1)) ?_
  refine nIf_le (tgt := 11) dX11_choose_4 (by decide) (by first | omega | exact Nat.lt_of_le_of_lt (Nat.mod_le _ _) (by omega)) (fun c1 => ?_) (fun c1 => ?_)
  · refine aX_iconst (v := nI 0) dX11_choose_11 (by decide) ?_
    refine aX_istore_n (lv' := [(0, .ref 159), (1, .int (nI (0)))]) dX11_choose_12 (by decide) rfl ?_
    refine aX_iconst (v := nI 0) dX11_choose_13 (by decide) ?_
    refine aX_istore_n (lv' := [(0, .ref 159), (1, .int (nI (0))), (2, .int (nI (0)))]) dX11_choose_14 (by decide) rfl ?_
    refine aX_iconst (v := nI 0) dX11_choose_15 (by decide) ?_
    refine aX_istore_n (lv' := [(0, .ref 159), (1, .int (nI (0))), (2, .int (nI (0))), (3, .int (nI (0)))]) dX11_choose_16 (by decide) rfl ?_
    refine aX_lv (lv' := [(0, .ref 159), (1, .int (bI false)), (2, .int (bI false)), (3, .int (nI 0))]) [0, 1, 2, 3] rfl ?_
    refine mc_p1 hR hs ho h6 hS hl hcn (fun hx => by rw [show oChoose z = (-2, z) by unfold oChoose; rw [if_pos hx]]; exact ⟨rfl, I, L, rfl, hz, fun _ _ _ => rfl, fun _ _ _ => rfl⟩) (fun hx hy => by rw [show oChoose z = (-3, z) by unfold oChoose; rw [if_neg hx, if_pos hy]]; exact ⟨rfl, I, L, rfl, hz, fun _ _ _ => rfl, fun _ _ _ => rfl⟩) (fun hx hy => ?_) _ 0 (by omega) rfl false false (⟨fun g => absurd g Bool.false_ne_true, fun ⟨h, _⟩ => by omega⟩) ⟨fun g => absurd g Bool.false_ne_true, fun ⟨j, _, h, _⟩ => by omega⟩
    have hco := czOk_of (s := z.1) (r := z.2.1) (fun e => hx (Or.inl e)) (fun e => hx (Or.inr e)) (by omega)
    have hczq : ∀ (k : Nat) (q : Nat × Nat), (jS z.1)[k]? = some q → 0 < jCo z.1 z.2.1 q.1 ∧ jCo z.1 z.2.1 q.1 ≤ 64 := fun k q hq => by have y := hco.2 k (List.getElem?_eq_some_iff.mp hq).1; rw [jB_of hq] at y; exact y
    have hoc : oChoose z = (jCost z.1 z.2.1 z.2.2.1 ((jS z.1).length - 1) (jChs z.1 z.2.1 z.2.2.1 0), z.1, z.2.1, z.2.2.1, true, false, z.2.2.2.2.2) := by unfold oChoose; rw [if_neg hx, if_neg hy]
    refine aX_iconst (v := nI 0) dX11_choose_83 (by decide) ?_
    refine aX_istore_n (lv' := [(0, .ref 159), (1, .int (bI (true))), (2, .int (bI (false))), (3, .int (nI (0)))]) dX11_choose_84 (by decide) rfl ?_
    refine mc_p2 hR hs ho h6 hS hl hcn hczq (fun I2 htg hk2 => ?_) _ 0 (by omega) rfl I (fun k q rd m h => by omega) (fun _ _ _ => rfl)
    have hs2 : mnRep I2 z.1 := mnRep_of (fun q j g => hk2 q j (by omega)) hs
    have hS2 : msRep I2 z.1 (jS z.1) := msRep_of (fun q j g => hk2 q j (by omega)) hS
    have hl2 : mlRep I2 z.2.1 := mlRep_of (fun q j _ _ => hk2 q j (by omega)) hl
    have hcn2 : mcRep I2 z.1 z.2.1 := mcRep_of (fun q j g => hk2 q j (by omega)) hcn
    have hw2 : mwRep I2 z.2.2.1 := mwRep_of (fun j => hk2 170 j (by omega)) hw
    refine aX_aload_n dX11_choose_174 rfl ?_
    refine aX_get (v := .int (nI ((jS z.1).length))) dX11_choose_175 lfX11_154 s159 (congrArg Value.int (hS2.1)) ?_
    refine aX_iconst (v := nI 1) dX11_choose_178 (by decide) ?_
    refine aX_isub dX11_choose_179 ?_
    rw [jDn_sub]
    refine aX_istore_n (lv' := [(0, .ref 159), (1, .int (bI (true))), (2, .int (bI (false))), (3, .int (jDn (jS z.1).length))]) dX11_choose_180 (by decide) rfl ?_
    refine mc_p3 hR hs2 ho h6 hS2 hl2 hcn2 hg hw2 hczq htg (fun L2 hls hkl => ?_) _ (jS z.1).length (Nat.le_refl _) rfl L (fun k q x a b d => by have := (List.getElem?_eq_some_iff.mp b).1; omega) (fun _ _ _ => rfl)
    refine mc_p4 hR hs2 ho h6 hS2 hl2 hcn2 hg hw2 hczq htg hco.1 hls (fun I3 h179 hk3 => ?_) _ 0 (by omega) rfl I2 0 (Or.inl rfl) (fun j h => by omega) (fun _ _ _ => rfl)
    refine aX_aload_n dX11_choose_474 rfl ?_
    refine aX_iconst (v := nI 1) dX11_choose_475 (by decide) ?_
    refine pZ (b := true) dX11_choose_476 lfX11_143 (fun _ _ _ hq => by cases hq; exact Or.inl rfl) s159 rfl ?_
    refine aX_aload_n dX11_choose_479 rfl ?_
    refine aX_iconst (v := nI 0) dX11_choose_480 (by decide) ?_
    refine pZ (b := false) dX11_choose_481 lfX11_147 (fun _ _ _ hq => by cases hq; exact Or.inl rfl) s159 rfl ?_
    refine aX_lload_n dX11_choose_484 rfl ?_
    exact rL dX11_choose_485 rfl (by
          rw [hoc]
          have hkk : ∀ q j, ¬ (q = 159 ∧ (j = 12 ∨ j = 13)) → q ≠ 179 → q ≠ 181 → aU (aU I3 159 12 (bI true)) 159 13 (bI false) q j = I q j := fun q j g1 g2 g3 => by rw [aU_n (by omega), aU_n (by omega)]; exact (hk3 q j g2).trans (hk2 q j g3)
          exact ⟨rfl, _, L2, rfl, ⟨mnRep_of (fun q j g => hkk q j (by omega) (by omega) (by omega)) hs, ho, h6, mlRep_of (fun q j _ _ => hkk q j (by omega) (by omega) (by omega)) hl, hg, mwRep_of (fun j => hkk 170 j (by omega) (by omega) (by omega)) hw, msRep_of (fun q j g => hkk q j (by omega) (by omega) (by omega)) hS, mcRep_of (fun q j g => hkk q j (by omega) (by omega) (by omega)) hcn, by rw [aU_n (by omega), aU_s], by rw [aU_s], fun g => absurd g Bool.false_ne_true, fun _ => ⟨hco, fun k hk => by rw [aU_n (by omega), aU_n (by omega)]; exact h179 k hk⟩, fun g => absurd g Bool.false_ne_true, prRep_of (hkk 159 34 (by omega) (by omega) (by omega)) (fun j => hkl 187 j (by omega)) hpr, mtRep_of (fun q j g => hkk q j (by omega) (by omega) (by omega)) htx⟩, fun q j g => hkk q j (by omega) (by omega) (by omega), fun q j g => hkl q j (by omega)⟩)
  · refine aX_iconst (v := nI 1) dX11_choose_7 (by decide) ?_
    refine aX_goto (tgt := 12) dX11_choose_8 (by decide) ?_
    refine aX_istore_n (lv' := [(0, .ref 159), (1, .int (nI (1)))]) dX11_choose_12 (by decide) rfl ?_
    refine aX_iconst (v := nI 0) dX11_choose_13 (by decide) ?_
    refine aX_istore_n (lv' := [(0, .ref 159), (1, .int (nI (1))), (2, .int (nI (0)))]) dX11_choose_14 (by decide) rfl ?_
    refine aX_iconst (v := nI 0) dX11_choose_15 (by decide) ?_
    refine aX_istore_n (lv' := [(0, .ref 159), (1, .int (nI (1))), (2, .int (nI (0))), (3, .int (nI (0)))]) dX11_choose_16 (by decide) rfl ?_
    refine aX_lv (lv' := [(0, .ref 159), (1, .int (bI true)), (2, .int (bI false)), (3, .int (nI 0))]) [0, 1, 2, 3] rfl ?_
    refine mc_p1 hR hs ho h6 hS hl hcn (fun hx => by rw [show oChoose z = (-2, z) by unfold oChoose; rw [if_pos hx]]; exact ⟨rfl, I, L, rfl, hz, fun _ _ _ => rfl, fun _ _ _ => rfl⟩) (fun hx hy => by rw [show oChoose z = (-3, z) by unfold oChoose; rw [if_neg hx, if_pos hy]]; exact ⟨rfl, I, L, rfl, hz, fun _ _ _ => rfl, fun _ _ _ => rfl⟩) (fun hx hy => ?_) _ 0 (by omega) rfl true false (⟨fun _ => ⟨by omega, fun j q h => by omega⟩, fun _ => rfl⟩) ⟨fun g => absurd g Bool.false_ne_true, fun ⟨j, _, h, _⟩ => by omega⟩
    have hco := czOk_of (s := z.1) (r := z.2.1) (fun e => hx (Or.inl e)) (fun e => hx (Or.inr e)) (by omega)
    have hczq : ∀ (k : Nat) (q : Nat × Nat), (jS z.1)[k]? = some q → 0 < jCo z.1 z.2.1 q.1 ∧ jCo z.1 z.2.1 q.1 ≤ 64 := fun k q hq => by have y := hco.2 k (List.getElem?_eq_some_iff.mp hq).1; rw [jB_of hq] at y; exact y
    have hoc : oChoose z = (jCost z.1 z.2.1 z.2.2.1 ((jS z.1).length - 1) (jChs z.1 z.2.1 z.2.2.1 0), z.1, z.2.1, z.2.2.1, true, false, z.2.2.2.2.2) := by unfold oChoose; rw [if_neg hx, if_neg hy]
    refine aX_iconst (v := nI 0) dX11_choose_83 (by decide) ?_
    refine aX_istore_n (lv' := [(0, .ref 159), (1, .int (bI (true))), (2, .int (bI (false))), (3, .int (nI (0)))]) dX11_choose_84 (by decide) rfl ?_
    refine mc_p2 hR hs ho h6 hS hl hcn hczq (fun I2 htg hk2 => ?_) _ 0 (by omega) rfl I (fun k q rd m h => by omega) (fun _ _ _ => rfl)
    have hs2 : mnRep I2 z.1 := mnRep_of (fun q j g => hk2 q j (by omega)) hs
    have hS2 : msRep I2 z.1 (jS z.1) := msRep_of (fun q j g => hk2 q j (by omega)) hS
    have hl2 : mlRep I2 z.2.1 := mlRep_of (fun q j _ _ => hk2 q j (by omega)) hl
    have hcn2 : mcRep I2 z.1 z.2.1 := mcRep_of (fun q j g => hk2 q j (by omega)) hcn
    have hw2 : mwRep I2 z.2.2.1 := mwRep_of (fun j => hk2 170 j (by omega)) hw
    refine aX_aload_n dX11_choose_174 rfl ?_
    refine aX_get (v := .int (nI ((jS z.1).length))) dX11_choose_175 lfX11_154 s159 (congrArg Value.int (hS2.1)) ?_
    refine aX_iconst (v := nI 1) dX11_choose_178 (by decide) ?_
    refine aX_isub dX11_choose_179 ?_
    rw [jDn_sub]
    refine aX_istore_n (lv' := [(0, .ref 159), (1, .int (bI (true))), (2, .int (bI (false))), (3, .int (jDn (jS z.1).length))]) dX11_choose_180 (by decide) rfl ?_
    refine mc_p3 hR hs2 ho h6 hS2 hl2 hcn2 hg hw2 hczq htg (fun L2 hls hkl => ?_) _ (jS z.1).length (Nat.le_refl _) rfl L (fun k q x a b d => by have := (List.getElem?_eq_some_iff.mp b).1; omega) (fun _ _ _ => rfl)
    refine mc_p4 hR hs2 ho h6 hS2 hl2 hcn2 hg hw2 hczq htg hco.1 hls (fun I3 h179 hk3 => ?_) _ 0 (by omega) rfl I2 0 (Or.inl rfl) (fun j h => by omega) (fun _ _ _ => rfl)
    refine aX_aload_n dX11_choose_474 rfl ?_
    refine aX_iconst (v := nI 1) dX11_choose_475 (by decide) ?_
    refine pZ (b := true) dX11_choose_476 lfX11_143 (fun _ _ _ hq => by cases hq; exact Or.inl rfl) s159 rfl ?_
    refine aX_aload_n dX11_choose_479 rfl ?_
    refine aX_iconst (v := nI 0) dX11_choose_480 (by decide) ?_
    refine pZ (b := false) dX11_choose_481 lfX11_147 (fun _ _ _ hq => by cases hq; exact Or.inl rfl) s159 rfl ?_
    refine aX_lload_n dX11_choose_484 rfl ?_
    exact rL dX11_choose_485 rfl (by
          rw [hoc]
          have hkk : ∀ q j, ¬ (q = 159 ∧ (j = 12 ∨ j = 13)) → q ≠ 179 → q ≠ 181 → aU (aU I3 159 12 (bI true)) 159 13 (bI false) q j = I q j := fun q j g1 g2 g3 => by rw [aU_n (by omega), aU_n (by omega)]; exact (hk3 q j g2).trans (hk2 q j g3)
          exact ⟨rfl, _, L2, rfl, ⟨mnRep_of (fun q j g => hkk q j (by omega) (by omega) (by omega)) hs, ho, h6, mlRep_of (fun q j _ _ => hkk q j (by omega) (by omega) (by omega)) hl, hg, mwRep_of (fun j => hkk 170 j (by omega) (by omega) (by omega)) hw, msRep_of (fun q j g => hkk q j (by omega) (by omega) (by omega)) hS, mcRep_of (fun q j g => hkk q j (by omega) (by omega) (by omega)) hcn, by rw [aU_n (by omega), aU_s], by rw [aU_s], fun g => absurd g Bool.false_ne_true, fun _ => ⟨hco, fun k hk => by rw [aU_n (by omega), aU_n (by omega)]; exact h179 k hk⟩, fun g => absurd g Bool.false_ne_true, prRep_of (hkk 159 34 (by omega) (by omega) (by omega)) (fun j => hkl 187 j (by omega)) hpr, mtRep_of (fun q j g => hkk q j (by omega) (by omega) (by omega)) htx⟩, fun q j g => hkk q j (by omega) (by omega) (by omega), fun q j g => hkl q j (by omega)⟩)
