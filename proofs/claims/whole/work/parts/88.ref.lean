/-! THE REFERENCE: move, near -/
set_option maxHeartbeats 1000000 in
theorem m10_move {I : Nat → Nat → Int32} {L : Nat → Nat → Int64} {R : Nat → Nat → Option Nat} (hR : aRf R) {z : jZ} (hz : mmRep I L z) {x y : Int32} : aM mX11_move [.ref 159, .int x, .int y] (sh0, I, L, R) (fun ans h' => ans = some (.int (oMove z x y).1) ∧ ∃ I' L', h' = (sh0, I', L', R) ∧ mmRep I' L' (oMove z x y).2 ∧ mmK I I' ∧ mmKL L L') := by
  obtain ⟨hs, ho, h6, hl, hg, hw, hS, hcn, h12, h13, hpc, hcz, hpz, hpr, htx⟩ := id hz
  have hn := ho.1
  have hSl := jS_len z.1
  refine aM_of plX11_move (Nat.le_of_ble_eq_true rfl) ?_
  refine aX_aload_n dX11_move_0 rfl ?_
  refine aX_iload_n dX11_move_1 rfl ?_
  refine aX_iload_n dX11_move_2 rfl ?_
  refine cVp (As := [.int (x), .int (y)]) (st := []) (v := .int (bI (jPart z.1 x y))) dX11_move_3 kX11_move_192 s159 aEok0 rfl rfl (Nat.le_of_ble_eq_true rfl) (m_isSounding hR hz) ?_
  refine bNe (tgt := 11) dX11_move_6 (by decide) (fun c1 => ?_) (fun c1 => ?_)
  · obtain ⟨k, m, hk, hm, rfl, rfl, hon⟩ := jPart_t2 hn c1
    obtain ⟨q, hq, hqb⟩ := jQ hk
    refine aX_aload_n dX11_move_11 rfl ?_
    refine aX_get (v := .int (bI (z.2.2.2.2.1))) dX11_move_12 lfX11_147 s159 (congrArg Value.int (h13)) ?_
    refine bNe (tgt := 21) dX11_move_15 (by decide) (fun c2 => ?_) (fun c2 => ?_)
    · obtain ⟨p1, p2, m9, p3, p4, p5⟩ := hpz c2
      have hDp : 0 < zV z.1 z.2.1 z.2.2.1 20 := by rw [zV_20 p1]; exact zD_pos hl.1 hg hw.1
      have hDb : ((zV z.1 z.2.1 z.2.2.1 20).natAbs : Int) < 2 ^ 360 := by
        have a1 := zV_b h6 hl.1 hg hw.1 p1 20
        have a2 := p329
        generalize (2 : Int) ^ 328 = A at *
        generalize (2 : Int) ^ 360 = B at *
        omega
      have h400 := p360
      have hvl := jV_lt hk hm hon
      have hkm := (ho.2 m hm).1
      obtain ⟨Y, hY⟩ : ∃ Y, Y = zV z.1 z.2.1 z.2.2.1 (jV z.1 k m) + zV z.1 z.2.1 z.2.2.1 20 * ((10000 * z.1.2.1 m : Nat) : Int) := ⟨_, rfl⟩
      have hYb : (Y.natAbs : Int) < 2 ^ 360 := by rw [hY]; exact yV_lt h6 hl.1 hg hw.1 p1 _ hkm
      have hfv : ∀ k', k' < 14 → ∃ v : Nat, L 189 (22 * k' + jV z.1 k m) = lN v ∧ v < m9 k' ∧ cg (m9 k') (v : Int) Y := fun k' hk' => by
        have := p5 k' hk' (jV z.1 k m) (Or.inl hvl)
        rw [yP_V hk hm hon p1, ← hY] at this; exact this
      have hfd : ∀ k', k' < 14 → ∃ v : Nat, L 189 (22 * k' + 20) = lN v ∧ v < m9 k' ∧ cg (m9 k') (v : Int) (zV z.1 z.2.1 z.2.2.1 20) := fun k' hk' => by
        have := p5 k' hk' 20 (Or.inr (Or.inl rfl))
        rw [yP_hi p1 (Nat.le_refl _)] at this; exact this
      obtain ⟨Dn, hDn⟩ : ∃ d, d = (zV z.1 z.2.1 z.2.2.1 20).natAbs := ⟨_, rfl⟩
      obtain ⟨N9, hN9⟩ : ∃ n, n = zV z.1 z.2.1 z.2.2.1 (jV z.1 k m) := ⟨_, rfl⟩
      have hDz : zV z.1 z.2.1 z.2.2.1 20 = (Dn : Int) := by omega
      have hNb : (N9.natAbs : Int) < 2 ^ 360 := by
        rw [hN9]
        have a1 := zV_b h6 hl.1 hg hw.1 p1 (jV z.1 k m)
        have a2 := p329
        generalize (2 : Int) ^ 328 = A at *
        generalize (2 : Int) ^ 360 = B at *
        omega
      have hDe : Dn * (10000 * z.1.2.1 m) < 2 ^ 360 := by
        have a1 : zV z.1 z.2.1 z.2.2.1 20 * ((10000 * z.1.2.1 m : Nat) : Int) < 2 ^ 328 := by rw [zV_20 p1]; exact pow_264 (zD_lt h6 hl.1 hg hw.1 p1) (by omega) (by omega) (zD_pos hl.1 hg hw.1)
        rw [hDz, ← Int.natCast_mul] at a1
        have a2 : (2 : Int) ^ 328 < ((2 ^ 360 : Nat) : Int) := by decide +kernel
        omega
      have hYN : Y = N9 + ((Dn * (10000 * z.1.2.1 m) : Nat) : Int) := by rw [hY, hDz, ← hN9, Int.natCast_mul Dn]
      have hDn2 : Dn < 2 ^ 360 := by rw [hDn]; exact nat360 hDb
      have hNn : N9.natAbs < 2 ^ 360 := nat360 hNb
      have hYn : Y.natAbs < 2 ^ 360 := nat360 hYb
      generalize hEe : Dn * (10000 * z.1.2.1 m) = E9 at *
      have hp1 := hPw_360
      have hp2 := hPw_17
      refine aX_aload_n dX11_move_21 rfl ?_
      refine aX_aload_n dX11_move_22 rfl ?_
      refine aX_get dX11_move_23 lfX11_69 s159 (f159_22 hR) ?_
      refine aX_bipush (v := nI 16) dX11_move_26 (by decide) ?_
      refine aX_iload_n dX11_move_28 rfl ?_
      refine nMul dX11_move_29 ?_
      refine aX_iload_n dX11_move_30 rfl ?_
      refine nAdd dX11_move_31 ?_
      refine nIald (v := nI (jV z.1 k m)) dX11_move_32 s177 (by first | omega | exact Nat.lt_of_le_of_lt (Nat.mod_le _ _) (by omega)) (by decide) (hcn.2.1 k q m hq (jML_mem.mpr ⟨hm, by rw [hqb]; exact hon⟩)) ?_
      refine cV (As := [.int (nI (jV z.1 k m))]) (st := []) dX11_move_33 kX11_move_310 s159 aEok0 rfl rfl (Nat.le_of_ble_eq_true rfl) (m_fraction hR (by omega) (m := m9) ⟨p3, p4⟩ hfv hfd (by omega) (by omega) hDp) (fun ans' h' hq9 => ?_)
      obtain ⟨rfl, L2, rfl, g1, g2, g3⟩ := hq9
      refine ⟨rfl, ?_⟩
      have gk : ∀ q j, 187 ≤ q ∧ q ≤ 189 → L2 q j = L q j := fun q j g => g3 q j (by omega) (by omega)
      refine aX_istore_n (lv' := [(0, .ref 159), (1, .int (nI (k))), (2, .int (nI (m))), (3, .int (bI (decide (Y < 0))))]) dX11_move_36 (by decide) rfl ?_
      refine aX_aload_n dX11_move_37 rfl ?_
      refine aX_iconst (v := nI 2) dX11_move_38 (by decide) ?_
      refine cV (As := [.int (nI (2))]) (st := []) dX11_move_39 kX11_move_279 s159 aEok0 rfl rfl (Nat.le_of_ble_eq_true rfl) (m_zero hR (x := 2) (by decide)) (fun ans' h' hq9 => ?_)
      obtain ⟨rfl, L3, rfl, g4, g5⟩ := hq9
      refine ⟨rfl, ?_⟩
      refine aX_aload_n dX11_move_42 rfl ?_
      refine aX_iconst (v := nI 2) dX11_move_43 (by decide) ?_
      refine aX_iconst (v := nI 1) dX11_move_44 (by decide) ?_
      refine aX_ldc2 (v := lN 10000) dX11_move_45 lkX11_317 ?_
      refine aX_aload_n dX11_move_48 rfl ?_
      refine aX_get dX11_move_49 lfX11_7 s159 (f159_1 hR) ?_
      refine aX_iload_n dX11_move_52 rfl ?_
      refine nIald (v := nI (z.1.2.1 m)) dX11_move_53 s160 (by first | omega | exact Nat.lt_of_le_of_lt (Nat.mod_le _ _) (by omega)) (by decide) ((hs.2 m hm).1) ?_
      refine kI2l dX11_move_54 (by first | omega | exact Nat.lt_of_le_of_lt (Nat.mod_le _ _) (by omega)) ?_
      refine kMul dX11_move_55 ?_
      refine cV (As := [.int (nI (2)), .int (nI (1)), .long (lN (10000 * (z.1.2.1 m)))]) (st := []) dX11_move_56 kX11_move_286 s159 aEok0 rfl rfl (Nat.le_of_ble_eq_true rfl) (m_add hR (by decide) (by decide) g4 (hD_hK g2 (by decide) g5) (by decide) (by omega)) (fun ans' h' hq9 => ?_)
      obtain ⟨rfl, L4, rfl, g6, g7⟩ := hq9
      refine ⟨rfl, ?_⟩
      rw [← hDn, hEe, Nat.zero_add] at g6
      have g04 : hD L4 0 Y.natAbs := hD_hK (hD_hK g1 (by decide) g5) (by decide) g7
      have g14 : hD L4 1 (zV z.1 z.2.1 z.2.2.1 20).natAbs := hD_hK (hD_hK g2 (by decide) g5) (by decide) g7
      have gk4 : ∀ q j, q ≠ 191 → q ≠ 192 → L4 q j = L q j := fun q j a b => (g7 q j (by omega)).trans ((g5 q j (by omega)).trans (g3 q j b (by omega)))
      refine aX_iload_n dX11_move_59 rfl ?_
      refine bEq (tgt := 76) dX11_move_60 (by decide) (fun c3 => ?_) (fun c3 => ?_)
      · have hy0 : ¬ Y < 0 := of_decide_eq_false c3
        refine aX_aload_n dX11_move_76 rfl ?_
        refine aX_iconst (v := nI 0) dX11_move_77 (by decide) ?_
        refine aX_iconst (v := nI 2) dX11_move_78 (by decide) ?_
        refine cVp (As := [.int (nI (0)), .int (nI (2))]) (st := []) (v := .int (hCp Y.natAbs E9)) dX11_move_79 kX11_move_265 s159 aEok0 rfl rfl (Nat.le_of_ble_eq_true rfl) (m_compare hR (by decide) (by decide) g04 g6 (by omega) (by omega)) ?_
        refine aX_if_lt (tgt := 97) dX11_move_82 (by decide) (fun c4 => ?_) (fun c4 => ?_)
        · have hcl : Y.natAbs < E9 := hCp_lt.mp c4
          refine aX_aload_n dX11_move_97 rfl ?_
          refine aX_iconst (v := nI 2) dX11_move_98 (by decide) ?_
          refine aX_iconst (v := nI 0) dX11_move_99 (by decide) ?_
          refine cV (As := [.int (nI (2)), .int (nI (0))]) (st := []) dX11_move_100 kX11_move_268 s159 aEok0 rfl rfl (Nat.le_of_ble_eq_true rfl) (m_less hR (by decide) (by decide) g6 g04 (by decide) (by omega)) (fun ans' h' hq9 => ?_)
          obtain ⟨rfl, L6, rfl, g8, g9⟩ := hq9
          refine ⟨rfl, ?_⟩
          refine aX_aload_n dX11_move_103 rfl ?_
          refine aX_iconst (v := nI 0) dX11_move_104 (by decide) ?_
          refine aX_iconst (v := nI 2) dX11_move_105 (by decide) ?_
          refine cV (As := [.int (nI (0)), .int (nI (2))]) (st := []) dX11_move_106 kX11_move_272 s159 aEok0 rfl rfl (Nat.le_of_ble_eq_true rfl) (m_copy hR (by decide) (by decide) g8 (by decide)) (fun ans' h' hq9 => ?_)
          obtain ⟨rfl, L7, rfl, g10, g11⟩ := hq9
          refine ⟨rfl, ?_⟩
          refine aX_aload_n dX11_move_109 rfl ?_
          refine aX_iconst (v := nI 1) dX11_move_110 (by decide) ?_
          have hXe : (E9 - Y.natAbs) = N9.natAbs := by omega
          have hXl : (E9 - Y.natAbs) < 2 ^ 360 := by omega
          refine cV (As := [.int (bI (true))]) (st := []) dX11_move_111 kX11_move_313 s159 aEok0 rfl rfl (Nat.le_of_ble_eq_true rfl) (m_tell hR g10 (hD_hK (hD_hK g14 (by decide) g9) (by decide) g11) hXl (nat360 hDb) (by omega) (ng := true)) (fun ans' h' hq9 => ?_)
          obtain ⟨l, I5, L5, rfl, rfl, t1, t2, t3, t4⟩ := hq9
          refine ⟨rfl, ?_⟩
          have hL5 : ∀ q j, 187 ≤ q ∧ q ≤ 189 → L5 q j = L q j := fun q j g => (t4 q j (by omega)).trans ((g11 q j (by omega)).trans ((g9 q j (by omega)).trans (gk4 q j (by omega) (by omega))))
          exact rI dX11_move_114 rfl (by
                have hov : oMove z (nI k) (nI m) = oTxt z N9 (zV z.1 z.2.1 z.2.2.1 20) := by unfold oMove; rw [if_pos c1, if_pos c2]; simp only [nI_clamp (show k < 2 ^ 31 by omega), nI_clamp (show m < 2 ^ 31 by omega), hN9]
                have t1' : isTx l (decide (N9 < 0)) (N9.natAbs / Nat.gcd N9.natAbs (zV z.1 z.2.1 z.2.2.1 20).natAbs) ((zV z.1 z.2.1 z.2.2.1 20).natAbs / Nat.gcd N9.natAbs (zV z.1 z.2.1 z.2.2.1 20).natAbs) := by
                  rw [← hXe]
                  rw [show decide (N9 < 0) = (true && decide (0 < (E9 - Y.natAbs))) by
                    first
                    | rw [decide_eq_true (show N9 < 0 by omega), decide_eq_true (show 0 < (E9 - Y.natAbs) by omega)]; rfl
                    | rw [decide_eq_false (show ¬ N9 < 0 by omega)]; rfl]
                  exact t1
                rw [hov]
                have htx9 := txOf_eq t1'
                refine ⟨by rw [show (oTxt z N9 (zV z.1 z.2.1 z.2.2.1 20)).1 = nI l.length by show nI (txOf _ _).length = _; rw [htx9]], I5, L5, rfl, ?_, fun q j g => t3 q j (by omega) (by omega), fun q j g => (t4 q j (by omega)).trans ((g11 q j (by omega)).trans ((g9 q j (by omega)).trans (gk4 q j (by omega) (by omega))))⟩
                show mmRep I5 L5 (z.1, z.2.1, z.2.2.1, z.2.2.2.1, z.2.2.2.2.1, txOf _ _)
                rw [htx9]
                exact mmRep_text hz t3 hL5 t2)
        · have hcl : ¬ Y.natAbs < E9 := fun z => c4 (hCp_lt.mpr z)
          refine aX_aload_n dX11_move_85 rfl ?_
          refine aX_iconst (v := nI 0) dX11_move_86 (by decide) ?_
          refine aX_iconst (v := nI 2) dX11_move_87 (by decide) ?_
          refine cV (As := [.int (nI (0)), .int (nI (2))]) (st := []) dX11_move_88 kX11_move_268 s159 aEok0 rfl rfl (Nat.le_of_ble_eq_true rfl) (m_less hR (by decide) (by decide) g04 g6 (by decide) (by omega)) (fun ans' h' hq9 => ?_)
          obtain ⟨rfl, L6, rfl, g8, g9⟩ := hq9
          refine ⟨rfl, ?_⟩
          refine aX_aload_n dX11_move_91 rfl ?_
          refine aX_iconst (v := nI 0) dX11_move_92 (by decide) ?_
          have hXe : (Y.natAbs - E9) = N9.natAbs := by omega
          have hXl : (Y.natAbs - E9) < 2 ^ 360 := by omega
          refine cV (As := [.int (bI (false))]) (st := []) dX11_move_93 kX11_move_313 s159 aEok0 rfl rfl (Nat.le_of_ble_eq_true rfl) (m_tell hR g8 (hD_hK g14 (by decide) g9) hXl (nat360 hDb) (by omega) (ng := false)) (fun ans' h' hq9 => ?_)
          obtain ⟨l, I5, L5, rfl, rfl, t1, t2, t3, t4⟩ := hq9
          refine ⟨rfl, ?_⟩
          have hL5 : ∀ q j, 187 ≤ q ∧ q ≤ 189 → L5 q j = L q j := fun q j g => (t4 q j (by omega)).trans ((g9 q j (by omega)).trans (gk4 q j (by omega) (by omega)))
          exact rI dX11_move_96 rfl (by
                have hov : oMove z (nI k) (nI m) = oTxt z N9 (zV z.1 z.2.1 z.2.2.1 20) := by unfold oMove; rw [if_pos c1, if_pos c2]; simp only [nI_clamp (show k < 2 ^ 31 by omega), nI_clamp (show m < 2 ^ 31 by omega), hN9]
                have t1' : isTx l (decide (N9 < 0)) (N9.natAbs / Nat.gcd N9.natAbs (zV z.1 z.2.1 z.2.2.1 20).natAbs) ((zV z.1 z.2.1 z.2.2.1 20).natAbs / Nat.gcd N9.natAbs (zV z.1 z.2.1 z.2.2.1 20).natAbs) := by
                  rw [← hXe]
                  rw [show decide (N9 < 0) = (false && decide (0 < (Y.natAbs - E9))) by
                    first
                    | rw [decide_eq_true (show N9 < 0 by omega), decide_eq_true (show 0 < (Y.natAbs - E9) by omega)]; rfl
                    | rw [decide_eq_false (show ¬ N9 < 0 by omega)]; rfl]
                  exact t1
                rw [hov]
                have htx9 := txOf_eq t1'
                refine ⟨by rw [show (oTxt z N9 (zV z.1 z.2.1 z.2.2.1 20)).1 = nI l.length by show nI (txOf _ _).length = _; rw [htx9]], I5, L5, rfl, ?_, fun q j g => t3 q j (by omega) (by omega), fun q j g => (t4 q j (by omega)).trans ((g9 q j (by omega)).trans (gk4 q j (by omega) (by omega)))⟩
                show mmRep I5 L5 (z.1, z.2.1, z.2.2.1, z.2.2.2.1, z.2.2.2.2.1, txOf _ _)
                rw [htx9]
                exact mmRep_text hz t3 hL5 t2)
      · have hy0 : Y < 0 := of_decide_eq_true c3
        refine aX_aload_n dX11_move_63 rfl ?_
        refine aX_iconst (v := nI 0) dX11_move_64 (by decide) ?_
        refine aX_iconst (v := nI 2) dX11_move_65 (by decide) ?_
        refine aX_lconst (v := lN 1) dX11_move_66 rfl ?_
        refine cV (As := [.int (nI (0)), .int (nI (2)), .long (lN (1))]) (st := []) dX11_move_67 kX11_move_286 s159 aEok0 rfl rfl (Nat.le_of_ble_eq_true rfl) (m_add hR (by decide) (by decide) g04 g6 (by decide) (by decide)) (fun ans' h' hq9 => ?_)
        obtain ⟨rfl, L6, rfl, g8, g9⟩ := hq9
        refine ⟨rfl, ?_⟩
        rw [Nat.mul_one] at g8
        refine aX_aload_n dX11_move_70 rfl ?_
        refine aX_iconst (v := nI 1) dX11_move_71 (by decide) ?_
        have hXe : (Y.natAbs + E9) = N9.natAbs := by omega
        have hXl : (Y.natAbs + E9) < 2 ^ 360 := by omega
        refine cV (As := [.int (bI (true))]) (st := []) dX11_move_72 kX11_move_313 s159 aEok0 rfl rfl (Nat.le_of_ble_eq_true rfl) (m_tell hR g8 (hD_hK g14 (by decide) g9) hXl (nat360 hDb) (by omega) (ng := true)) (fun ans' h' hq9 => ?_)
        obtain ⟨l, I5, L5, rfl, rfl, t1, t2, t3, t4⟩ := hq9
        refine ⟨rfl, ?_⟩
        have hL5 : ∀ q j, 187 ≤ q ∧ q ≤ 189 → L5 q j = L q j := fun q j g => (t4 q j (by omega)).trans ((g9 q j (by omega)).trans (gk4 q j (by omega) (by omega)))
        exact rI dX11_move_75 rfl (by
              have hov : oMove z (nI k) (nI m) = oTxt z N9 (zV z.1 z.2.1 z.2.2.1 20) := by unfold oMove; rw [if_pos c1, if_pos c2]; simp only [nI_clamp (show k < 2 ^ 31 by omega), nI_clamp (show m < 2 ^ 31 by omega), hN9]
              have t1' : isTx l (decide (N9 < 0)) (N9.natAbs / Nat.gcd N9.natAbs (zV z.1 z.2.1 z.2.2.1 20).natAbs) ((zV z.1 z.2.1 z.2.2.1 20).natAbs / Nat.gcd N9.natAbs (zV z.1 z.2.1 z.2.2.1 20).natAbs) := by
                rw [← hXe]
                rw [show decide (N9 < 0) = (true && decide (0 < (Y.natAbs + E9))) by
                  first
                  | rw [decide_eq_true (show N9 < 0 by omega), decide_eq_true (show 0 < (Y.natAbs + E9) by omega)]; rfl
                  | rw [decide_eq_false (show ¬ N9 < 0 by omega)]; rfl]
                exact t1
              rw [hov]
              have htx9 := txOf_eq t1'
              refine ⟨by rw [show (oTxt z N9 (zV z.1 z.2.1 z.2.2.1 20)).1 = nI l.length by show nI (txOf _ _).length = _; rw [htx9]], I5, L5, rfl, ?_, fun q j g => t3 q j (by omega) (by omega), fun q j g => (t4 q j (by omega)).trans ((g9 q j (by omega)).trans (gk4 q j (by omega) (by omega)))⟩
              show mmRep I5 L5 (z.1, z.2.1, z.2.2.1, z.2.2.2.1, z.2.2.2.2.1, txOf _ _)
              rw [htx9]
              exact mmRep_text hz t3 hL5 t2)
    · refine aX_bipush (v := (-2)) dX11_move_18 (by decide) ?_
      exact rI dX11_move_20 rfl (by rw [show oMove z (nI k) (nI m) = (-2, z) by unfold oMove; rw [if_pos c1, if_neg (by simp [c2])]]; exact ⟨rfl, I, L, rfl, hz, fun _ _ _ => rfl, fun _ _ _ => rfl⟩)
  · refine aX_iconst (v := (-1)) dX11_move_9 (by decide) ?_
    exact rI dX11_move_10 rfl (by rw [show oMove z x y = (-1, z) by unfold oMove; rw [if_neg (by simp [c1])]]; exact ⟨rfl, I, L, rfl, hz, fun _ _ _ => rfl, fun _ _ _ => rfl⟩)
theorem q18 {q : Nat} (h : q < 2147483648) : hDg q 0 + hDg q 1 * 1000000000 = q := by
  have h1 : hDg q 1 = q / 1000000000 % 1000000000 := by unfold hDg; rw [hPw_s, hPw_0, Nat.one_mul]
  rw [hDg_0, h1]; omega
theorem near_q2 {y D : Int} (hD : 0 < D) (hy : (y.natAbs : Int) ≤ 2028213200 * D) : (2 * y + D).natAbs / (D.natAbs * 2) < 2147483648 := by
  refine Nat.div_lt_of_lt_mul ?_
  omega
set_option maxHeartbeats 1000000 in
theorem ml_near98 {I : Nat → Nat → Int32} {L : Nat → Nat → Int64} {R : Nat → Nat → Option Nat} (hR : aRf R) {S D : Nat} {fl : Bool} {k m : Nat} {L1 : Nat → Nat → Int64} (h0 : hD L1 0 S) (h1 : hD L1 1 D) (hS : S < 2 ^ 366) (hD : D < 2 ^ 360) (hD0 : 0 < D) (hq : S / (D * 2) < 2147483648) (hfl : fl = true → 0 < S) (hk : (∀ q j, q ≠ 191 → q ≠ 192 → L1 q j = L q j)) : aX mX11_near aE0 (sh0, I, L1, R) 98 [(0, .ref 159), (1, .int (nI k)), (2, .int (nI m)), (3, .int (bI fl))] [] 0 0 (fun ans h' => ans = some (.int (iZ ((if fl then -(S : Int) else (S : Int)) / ((D : Int) * 2)))) ∧ ∃ L', h' = (sh0, I, L', R) ∧ (∀ q j, q ≠ 191 → q ≠ 192 → L' q j = L q j)) := by
  have hp : 2 ^ 366 < hPw 17 := by decide +kernel
  have hp3 : 2 ^ 360 * 2 < hPw 17 := by decide +kernel
  have hp2 := hPw_17
  have hsn : ((S : Int)).natAbs = S := by omega
  have hsm : (-(S : Int)).natAbs = S := by omega
  have hdm := Nat.div_add_mod S (D * 2)
  refine aX_aload_n dX11_near_98 rfl ?_
  refine aX_iconst (v := nI 1) dX11_near_99 (by decide) ?_
  refine aX_ldc2 (v := lN 2) dX11_near_100 lkX11_222 ?_
  refine aX_lconst (v := lN 0) dX11_near_103 rfl ?_
  refine cV (As := [.int (nI (1)), .long (lN (2)), .long (lN (0))]) (st := []) dX11_near_104 kX11_near_275 s159 aEok0 rfl rfl (Nat.le_of_ble_eq_true rfl) (m_step hR (by decide) h1 (by decide) (by decide)) (fun ans' h' hq9 => ?_)
  obtain ⟨rfl, L2, rfl, g1, g2⟩ := hq9
  refine ⟨rfl, ?_⟩
  rw [Nat.add_zero] at g1
  refine aX_aload_n dX11_near_107 rfl ?_
  refine aX_iconst (v := nI 3) dX11_near_108 (by decide) ?_
  refine aX_iconst (v := nI 0) dX11_near_109 (by decide) ?_
  refine aX_iconst (v := nI 1) dX11_near_110 (by decide) ?_
  refine cV (As := [.int (nI (3)), .int (nI (0)), .int (nI (1))]) (st := []) dX11_near_111 kX11_near_302 s159 aEok0 rfl rfl (Nat.le_of_ble_eq_true rfl) (m_divide3 hR (z := 3) (x := 0) (y := 1) (by decide) (by decide) (by decide) (by decide) (by decide) (by decide) (hD_hK h0 (by decide) g2) g1 (by omega) (by omega) (by omega)) (fun ans' h' hq9 => ?_)
  obtain ⟨rfl, L3, rfl, g3, g4, g5⟩ := hq9
  refine ⟨rfl, ?_⟩
  have hkk : (∀ q j, q ≠ 191 → q ≠ 192 → L3 q j = L q j) := fun q j g g9 => (g5 q j (by omega)).trans ((g2 q j (by omega)).trans (hk q j g g9))
  refine aX_aload_n dX11_near_114 rfl ?_
  refine aX_get dX11_near_115 lfX11_113 s159 (f159_40 hR) ?_
  refine aX_bipush (v := nI 54) dX11_near_118 (by decide) ?_
  refine nLald (v := lN (hDg (S / (D * 2)) 0)) dX11_near_120 s191 (by first | omega | exact Nat.lt_of_le_of_lt (Nat.mod_le _ _) (by omega)) (by decide) (g3 0 (by decide)) ?_
  refine aX_aload_n dX11_near_121 rfl ?_
  refine aX_get dX11_near_122 lfX11_113 s159 (f159_40 hR) ?_
  refine aX_bipush (v := nI 55) dX11_near_125 (by decide) ?_
  refine nLald (v := lN (hDg (S / (D * 2)) 1)) dX11_near_127 s191 (by first | omega | exact Nat.lt_of_le_of_lt (Nat.mod_le _ _) (by omega)) (by decide) (g3 1 (by decide)) ?_
  refine aX_ldc2 (v := lN 1000000000) dX11_near_128 lkX11_253 ?_
  refine kMul dX11_near_131 ?_
  refine kAdd dX11_near_132 ?_
  rw [q18 hq]
  refine kL2i dX11_near_133 ?_
  refine aX_istore (lv' := [(0, .ref 159), (1, .int (nI (k))), (2, .int (nI (m))), (3, .int (bI (fl))), (4, .int (nI (S / (D * 2))))]) dX11_near_134 (by decide) rfl ?_
  refine aX_iload_n dX11_near_136 rfl ?_
  refine bNe (tgt := 145) dX11_near_137 (by decide) (fun c1 => ?_) (fun c1 => ?_)
  · have hfe := c1
    refine aX_aload_n dX11_near_145 rfl ?_
    refine aX_iconst (v := nI 0) dX11_near_146 (by decide) ?_
    refine cVp (As := [.int (nI (0))]) (st := []) (v := .int (bI (decide (S % (D * 2) = 0)))) dX11_near_147 kX11_near_255 s159 aEok0 rfl rfl (Nat.le_of_ble_eq_true rfl) (m_isZero hR (by decide) g4 (by have := Nat.mod_lt S (show 0 < D * 2 by omega); omega)) ?_
    refine bEq (tgt := 159) dX11_near_150 (by decide) (fun c2 => ?_) (fun c2 => ?_)
    · have hzz : ¬ S % (D * 2) = 0 := of_decide_eq_false c2
      refine aX_iload dX11_near_159 rfl ?_
      refine aX_ineg dX11_near_161 ?_
      refine aX_iconst (v := nI 1) dX11_near_162 (by decide) ?_
      refine aX_isub dX11_near_163 ?_
      exact rI dX11_near_164 rfl (⟨by rw [hfe, if_pos rfl, rd_neg2 (by omega) (by have := hfl hfe; omega) (by rw [hsm]; omega), hsm, nZ, iZ_neg, show (nI 1 : Int32) = iZ 1 from rfl, iZ_sub]; rfl, L3, rfl, hkk⟩)
    · have hzz : S % (D * 2) = 0 := of_decide_eq_true c2
      refine aX_iload dX11_near_153 rfl ?_
      refine aX_ineg dX11_near_155 ?_
      refine aX_goto (tgt := 164) dX11_near_156 (by decide) ?_
      exact rI dX11_near_164 rfl (⟨by rw [hfe, if_pos rfl, rd_neg1 (by omega) (by have := hfl hfe; omega) (by rw [hsm]; omega), hsm, nZ, iZ_neg], L3, rfl, hkk⟩)
  · have hfe := c1
    refine aX_iload dX11_near_140 rfl ?_
    refine aX_goto (tgt := 164) dX11_near_142 (by decide) ?_
    exact rI dX11_near_164 rfl (⟨by rw [hfe, if_neg Bool.false_ne_true, rd_pos (by omega) (by omega), hsn, ← nZ], L3, rfl, hkk⟩)
set_option maxHeartbeats 1000000 in
theorem m10_near {I : Nat → Nat → Int32} {L : Nat → Nat → Int64} {R : Nat → Nat → Option Nat} (hR : aRf R) {z : jZ} (hz : mmRep I L z) {x y : Int32} : aM mX11_near [.ref 159, .int x, .int y] (sh0, I, L, R) (fun ans h' => ans = some (.int (oNear z x y)) ∧ ∃ I' L', h' = (sh0, I', L', R) ∧ mmRep I' L' z ∧ mmK I I' ∧ mmKL L L') := by
  obtain ⟨hs, ho, h6, hl, hg, hw, hS, hcn, h12, h13, hpc, hcz, hpz, hpr, htx⟩ := id hz
  have hn := ho.1
  have hSl := jS_len z.1
  refine aM_of plX11_near (Nat.le_of_ble_eq_true rfl) ?_
  refine aX_aload_n dX11_near_0 rfl ?_
  refine aX_iload_n dX11_near_1 rfl ?_
  refine aX_iload_n dX11_near_2 rfl ?_
  refine cVp (As := [.int (x), .int (y)]) (st := []) (v := .int (bI (jPart z.1 x y))) dX11_near_3 kX11_near_192 s159 aEok0 rfl rfl (Nat.le_of_ble_eq_true rfl) (m_isSounding hR hz) ?_
  refine bNe (tgt := 11) dX11_near_6 (by decide) (fun c1 => ?_) (fun c1 => ?_)
  · obtain ⟨k, m, hk, hm, rfl, rfl, hon⟩ := jPart_t2 hn c1
    obtain ⟨q, hq, hqb⟩ := jQ hk
    refine aX_aload_n dX11_near_11 rfl ?_
    refine aX_get (v := .int (bI (z.2.2.2.2.1))) dX11_near_12 lfX11_147 s159 (congrArg Value.int (h13)) ?_
    refine bNe (tgt := 21) dX11_near_15 (by decide) (fun c2 => ?_) (fun c2 => ?_)
    · obtain ⟨p1, p2, m9, p3, p4, p5⟩ := hpz c2
      have hDp : 0 < zV z.1 z.2.1 z.2.2.1 20 := by rw [zV_20 p1]; exact zD_pos hl.1 hg hw.1
      have hDb : ((zV z.1 z.2.1 z.2.2.1 20).natAbs : Int) < 2 ^ 360 := by
        have a1 := zV_b h6 hl.1 hg hw.1 p1 20
        have a2 := p329
        generalize (2 : Int) ^ 328 = A at *
        generalize (2 : Int) ^ 360 = B at *
        omega
      have h400 := p360
      have hvl := jV_lt hk hm hon
      have hkm := (ho.2 m hm).1
      obtain ⟨Y, hY⟩ : ∃ Y, Y = zV z.1 z.2.1 z.2.2.1 (jV z.1 k m) + zV z.1 z.2.1 z.2.2.1 20 * ((10000 * z.1.2.1 m : Nat) : Int) := ⟨_, rfl⟩
      have hYb : (Y.natAbs : Int) < 2 ^ 360 := by rw [hY]; exact yV_lt h6 hl.1 hg hw.1 p1 _ hkm
      have hfv : ∀ k', k' < 14 → ∃ v : Nat, L 189 (22 * k' + jV z.1 k m) = lN v ∧ v < m9 k' ∧ cg (m9 k') (v : Int) Y := fun k' hk' => by
        have := p5 k' hk' (jV z.1 k m) (Or.inl hvl)
        rw [yP_V hk hm hon p1, ← hY] at this; exact this
      have hfd : ∀ k', k' < 14 → ∃ v : Nat, L 189 (22 * k' + 20) = lN v ∧ v < m9 k' ∧ cg (m9 k') (v : Int) (zV z.1 z.2.1 z.2.2.1 20) := fun k' hk' => by
        have := p5 k' hk' 20 (Or.inr (Or.inl rfl))
        rw [yP_hi p1 (Nat.le_refl _)] at this; exact this
      obtain ⟨Dn, hDn⟩ : ∃ d, d = (zV z.1 z.2.1 z.2.2.1 20).natAbs := ⟨_, rfl⟩
      obtain ⟨N9, hN9⟩ : ∃ n, n = zV z.1 z.2.1 z.2.2.1 (jV z.1 k m) := ⟨_, rfl⟩
      have hDz : zV z.1 z.2.1 z.2.2.1 20 = (Dn : Int) := by omega
      have hNs : (N9.natAbs : Int) ≤ 2026943200 * (Dn : Int) := by rw [hN9, ← hDz, zV_20 p1, zV_N hvl]; exact zN_small h6 hl.1 hg hw.1 p1 hvl
      have hYN : Y = N9 + (Dn : Int) * ((10000 * z.1.2.1 m : Nat) : Int) := by rw [hY, hDz, ← hN9]
      have hDn2 : Dn < 2 ^ 360 := by rw [hDn]; exact nat360 hDb
      have hYn : Y.natAbs < 2 ^ 360 := nat360 hYb
      have hDn0 : 0 < Dn := by omega
      have hYs : (Y.natAbs : Int) ≤ 2028213200 * (Dn : Int) := by
        have e1 : (Dn : Int) * ((10000 * z.1.2.1 m : Nat) : Int) ≤ (Dn : Int) * 1270000 := Int.mul_le_mul_of_nonneg_left (by omega) (by omega)
        have e2 : 0 ≤ (Dn : Int) * ((10000 * z.1.2.1 m : Nat) : Int) := Int.mul_nonneg (by omega) (by omega)
        generalize (Dn : Int) * ((10000 * z.1.2.1 m : Nat) : Int) = E at *
        omega
      have hqq := near_q2 (y := Y) (D := (Dn : Int)) (by omega) hYs
      have hnn : ((Dn : Int)).natAbs = Dn := by omega
      rw [hnn] at hqq
      have hov : oNear z (nI k) (nI m) = iZ ((2 * Y + (Dn : Int)) / ((Dn : Int) * 2)) := by
        unfold oNear
        rw [if_pos c1, if_pos c2]
        simp only [nI_clamp (show k < 2 ^ 31 by omega), nI_clamp (show m < 2 ^ 31 by omega)]
        rw [← hN9, hDz, nZ, iZ_add]
        congr 1
        rw [hYN, show 2 * (N9 + (Dn : Int) * ((10000 * z.1.2.1 m : Nat) : Int)) + (Dn : Int) = (N9 * 2 + Dn) + ((10000 * z.1.2.1 m : Nat) : Int) * ((Dn : Int) * 2) by grind, Int.add_mul_ediv_right _ _ (by omega), Int.add_comm]
      have hp1 := hPw_360
      have hp3 : 2 ^ 360 * 4 < hPw 17 := by decide +kernel
      have hp4 : 2 ^ 360 * 4 < 2 ^ 366 := by decide +kernel
      have hp2 := hPw_17
      refine aX_aload_n dX11_near_21 rfl ?_
      refine aX_aload_n dX11_near_22 rfl ?_
      refine aX_get dX11_near_23 lfX11_69 s159 (f159_22 hR) ?_
      refine aX_bipush (v := nI 16) dX11_near_26 (by decide) ?_
      refine aX_iload_n dX11_near_28 rfl ?_
      refine nMul dX11_near_29 ?_
      refine aX_iload_n dX11_near_30 rfl ?_
      refine nAdd dX11_near_31 ?_
      refine nIald (v := nI (jV z.1 k m)) dX11_near_32 s177 (by first | omega | exact Nat.lt_of_le_of_lt (Nat.mod_le _ _) (by omega)) (by decide) (hcn.2.1 k q m hq (jML_mem.mpr ⟨hm, by rw [hqb]; exact hon⟩)) ?_
      refine cV (As := [.int (nI (jV z.1 k m))]) (st := []) dX11_near_33 kX11_near_310 s159 aEok0 rfl rfl (Nat.le_of_ble_eq_true rfl) (m_fraction hR (by omega) (m := m9) ⟨p3, p4⟩ hfv hfd (by omega) (by omega) hDp) (fun ans' h' hq9 => ?_)
      obtain ⟨rfl, L2, rfl, g1, g2, g3⟩ := hq9
      refine ⟨rfl, ?_⟩
      have gk : ∀ q j, 187 ≤ q ∧ q ≤ 189 → L2 q j = L q j := fun q j g => g3 q j (by omega) (by omega)
      refine aX_istore_n (lv' := [(0, .ref 159), (1, .int (nI (k))), (2, .int (nI (m))), (3, .int (bI (decide (Y < 0))))]) dX11_near_36 (by decide) rfl ?_
      refine aX_aload_n dX11_near_37 rfl ?_
      refine aX_iconst (v := nI 0) dX11_near_38 (by decide) ?_
      refine aX_ldc2 (v := lN 2) dX11_near_39 lkX11_222 ?_
      refine aX_lconst (v := lN 0) dX11_near_42 rfl ?_
      refine cV (As := [.int (nI (0)), .long (lN (2)), .long (lN (0))]) (st := []) dX11_near_43 kX11_near_275 s159 aEok0 rfl rfl (Nat.le_of_ble_eq_true rfl) (m_step hR (by decide) g1 (by decide) (by decide)) (fun ans' h' hq9 => ?_)
      obtain ⟨rfl, L3, rfl, g4, g5⟩ := hq9
      refine ⟨rfl, ?_⟩
      rw [Nat.add_zero] at g4
      have g13 := hD_hK g2 (show 1 ≠ 0 by decide) g5
      rw [← hDn] at g13
      have gk3 : ∀ q j, q ≠ 191 → q ≠ 192 → L3 q j = L q j := fun q j a b => (g5 q j (by omega)).trans (g3 q j b (by omega))
      refine aX_iload_n dX11_near_46 rfl ?_
      refine bNe (tgt := 60) dX11_near_47 (by decide) (fun c3 => ?_) (fun c3 => ?_)
      · have hy0 : Y < 0 := of_decide_eq_true c3
        refine aX_aload_n dX11_near_60 rfl ?_
        refine aX_iconst (v := nI 0) dX11_near_61 (by decide) ?_
        refine aX_iconst (v := nI 1) dX11_near_62 (by decide) ?_
        refine cVp (As := [.int (nI (0)), .int (nI (1))]) (st := []) (v := .int (hCp (Y.natAbs * 2) Dn)) dX11_near_63 kX11_near_265 s159 aEok0 rfl rfl (Nat.le_of_ble_eq_true rfl) (m_compare hR (by decide) (by decide) g4 g13 (by omega) (by omega)) ?_
        refine aX_if_gt (tgt := 92) dX11_near_66 (by decide) (fun c4 => ?_) (fun c4 => ?_)
        · have hcl : Dn < Y.natAbs * 2 := hCp_gt.mp c4
          refine aX_aload_n dX11_near_92 rfl ?_
          refine aX_iconst (v := nI 0) dX11_near_93 (by decide) ?_
          refine aX_iconst (v := nI 1) dX11_near_94 (by decide) ?_
          refine cV (As := [.int (nI (0)), .int (nI (1))]) (st := []) dX11_near_95 kX11_near_268 s159 aEok0 rfl rfl (Nat.le_of_ble_eq_true rfl) (m_less hR (by decide) (by decide) g4 g13 (by decide) (by omega)) (fun ans' h' hq9 => ?_)
          obtain ⟨rfl, L4, rfl, g6, g7⟩ := hq9
          refine ⟨rfl, ?_⟩
          have g14 := hD_hK g13 (show 1 ≠ 0 by decide) g7
          rw [show decide (Y < 0) = true from decide_eq_true hy0]
          have hSe : (2 * Y + (Dn : Int)).natAbs = (Y.natAbs * 2 - Dn) := by omega
          refine aX_mono (ml_near98 (L := L) (fl := true) hR g6 g14 (by omega) hDn2 hDn0 (by rw [← hSe]; exact hqq) (fun g => by omega) (fun q j g g19 => (g7 q j (by omega)).trans (gk3 q j (by omega) (by omega)))) (fun ans5 h5 hq5 => ?_)
          obtain ⟨rfl, L9, rfl, hk9⟩ := hq5
          exact ⟨by rw [hov, show (if true = true then -(((Y.natAbs * 2 - Dn) : Nat) : Int) else (((Y.natAbs * 2 - Dn) : Nat) : Int)) = 2 * Y + (Dn : Int) by rw [if_pos rfl]; omega], I, L9, rfl, mmRep_same ⟨fun _ _ _ => rfl, fun q j g => hk9 q j (by omega) (by omega)⟩ hz, fun _ _ _ => rfl, fun q j g => hk9 q j (by omega) (by omega)⟩
        · have hcl : ¬ Dn < Y.natAbs * 2 := fun z => c4 (hCp_gt.mpr z)
          refine aX_aload_n dX11_near_69 rfl ?_
          refine aX_iconst (v := nI 2) dX11_near_70 (by decide) ?_
          refine aX_iconst (v := nI 1) dX11_near_71 (by decide) ?_
          refine cV (As := [.int (nI (2)), .int (nI (1))]) (st := []) dX11_near_72 kX11_near_272 s159 aEok0 rfl rfl (Nat.le_of_ble_eq_true rfl) (m_copy hR (by decide) (by decide) g13 (by decide)) (fun ans' h' hq9 => ?_)
          obtain ⟨rfl, L4, rfl, g6, g7⟩ := hq9
          refine ⟨rfl, ?_⟩
          refine aX_aload_n dX11_near_75 rfl ?_
          refine aX_iconst (v := nI 2) dX11_near_76 (by decide) ?_
          refine aX_iconst (v := nI 0) dX11_near_77 (by decide) ?_
          refine cV (As := [.int (nI (2)), .int (nI (0))]) (st := []) dX11_near_78 kX11_near_268 s159 aEok0 rfl rfl (Nat.le_of_ble_eq_true rfl) (m_less hR (by decide) (by decide) g6 (hD_hK g4 (by decide) g7) (by decide) (by omega)) (fun ans' h' hq9 => ?_)
          obtain ⟨rfl, L5, rfl, g8, g9⟩ := hq9
          refine ⟨rfl, ?_⟩
          refine aX_aload_n dX11_near_81 rfl ?_
          refine aX_iconst (v := nI 0) dX11_near_82 (by decide) ?_
          refine aX_iconst (v := nI 2) dX11_near_83 (by decide) ?_
          refine cV (As := [.int (nI (0)), .int (nI (2))]) (st := []) dX11_near_84 kX11_near_272 s159 aEok0 rfl rfl (Nat.le_of_ble_eq_true rfl) (m_copy hR (by decide) (by decide) g8 (by decide)) (fun ans' h' hq9 => ?_)
          obtain ⟨rfl, L6, rfl, g10, g11⟩ := hq9
          refine ⟨rfl, ?_⟩
          have g14 := hD_hK (hD_hK (hD_hK g13 (show 1 ≠ 2 by decide) g7) (show 1 ≠ 2 by decide) g9) (show 1 ≠ 0 by decide) g11
          refine aX_iconst (v := nI 0) dX11_near_87 (by decide) ?_
          refine aX_istore_n (lv' := [(0, .ref 159), (1, .int (nI (k))), (2, .int (nI (m))), (3, .int (nI (0)))]) dX11_near_88 (by decide) rfl ?_
          refine aX_goto (tgt := 98) dX11_near_89 (by decide) ?_
          refine aX_lv (lv' := [(0, .ref 159), (1, .int (nI k)), (2, .int (nI m)), (3, .int (bI false))]) [0, 1, 2, 3] rfl ?_
          have hSe : (2 * Y + (Dn : Int)).natAbs = (Dn - Y.natAbs * 2) := by omega
          refine aX_mono (ml_near98 (L := L) (fl := false) hR g10 g14 (by omega) hDn2 hDn0 (by rw [← hSe]; exact hqq) (fun g => absurd g Bool.false_ne_true) (fun q j g g19 => (g11 q j (by omega)).trans ((g9 q j (by omega)).trans ((g7 q j (by omega)).trans (gk3 q j (by omega) (by omega)))))) (fun ans5 h5 hq5 => ?_)
          obtain ⟨rfl, L9, rfl, hk9⟩ := hq5
          exact ⟨by rw [hov, show (if false = true then -(((Dn - Y.natAbs * 2) : Nat) : Int) else (((Dn - Y.natAbs * 2) : Nat) : Int)) = 2 * Y + (Dn : Int) by rw [if_neg Bool.false_ne_true]; omega], I, L9, rfl, mmRep_same ⟨fun _ _ _ => rfl, fun q j g => hk9 q j (by omega) (by omega)⟩ hz, fun _ _ _ => rfl, fun q j g => hk9 q j (by omega) (by omega)⟩
      · have hy0 : ¬ Y < 0 := of_decide_eq_false c3
        refine aX_aload_n dX11_near_50 rfl ?_
        refine aX_iconst (v := nI 0) dX11_near_51 (by decide) ?_
        refine aX_iconst (v := nI 1) dX11_near_52 (by decide) ?_
        refine aX_lconst (v := lN 1) dX11_near_53 rfl ?_
        refine cV (As := [.int (nI (0)), .int (nI (1)), .long (lN (1))]) (st := []) dX11_near_54 kX11_near_286 s159 aEok0 rfl rfl (Nat.le_of_ble_eq_true rfl) (m_add hR (by decide) (by decide) g4 g13 (by decide) (by decide)) (fun ans' h' hq9 => ?_)
        obtain ⟨rfl, L4, rfl, g6, g7⟩ := hq9
        refine ⟨rfl, ?_⟩
        rw [Nat.mul_one] at g6
        have g14 := hD_hK g13 (show 1 ≠ 0 by decide) g7
        refine aX_goto (tgt := 98) dX11_near_57 (by decide) ?_
        rw [show decide (Y < 0) = false from decide_eq_false hy0]
        have hSe : (2 * Y + (Dn : Int)).natAbs = (Y.natAbs * 2 + Dn) := by omega
        refine aX_mono (ml_near98 (L := L) (fl := false) hR g6 g14 (by omega) hDn2 hDn0 (by rw [← hSe]; exact hqq) (fun g => absurd g Bool.false_ne_true) (fun q j g g19 => (g7 q j (by omega)).trans (gk3 q j (by omega) (by omega)))) (fun ans5 h5 hq5 => ?_)
        obtain ⟨rfl, L9, rfl, hk9⟩ := hq5
        exact ⟨by rw [hov, show (if false = true then -(((Y.natAbs * 2 + Dn) : Nat) : Int) else (((Y.natAbs * 2 + Dn) : Nat) : Int)) = 2 * Y + (Dn : Int) by rw [if_neg Bool.false_ne_true]; omega], I, L9, rfl, mmRep_same ⟨fun _ _ _ => rfl, fun q j g => hk9 q j (by omega) (by omega)⟩ hz, fun _ _ _ => rfl, fun q j g => hk9 q j (by omega) (by omega)⟩
    · refine aX_bipush (v := (-2)) dX11_near_18 (by decide) ?_
      exact rI dX11_near_20 rfl (⟨by rw [show oNear z (nI k) (nI m) = -2 by unfold oNear; rw [if_pos c1, if_neg (by simp [c2])]], I, L, rfl, hz, fun _ _ _ => rfl, fun _ _ _ => rfl⟩)
  · refine aX_iconst (v := (-1)) dX11_near_9 (by decide) ?_
    exact rI dX11_near_10 rfl (⟨by rw [show oNear z x y = -1 by unfold oNear; rw [if_neg (by simp [c1])]], I, L, rfl, hz, fun _ _ _ => rfl, fun _ _ _ => rfl⟩)
