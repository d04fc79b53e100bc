/-! THE CLASS'S CALLS -/
theorem jPart_t2 {s : jN} (hn : s.1 ≤ 16) {x y : Int32} (h : jPart s x y = true) : ∃ k m, k < (jS s).length ∧ m < s.1 ∧ x = nI k ∧ y = nI m ∧ jOn s m (jB s k) = true := by
  have hSl := jS_len s
  unfold jPart at h
  simp only [Bool.and_eq_true] at h
  obtain ⟨k, hk, rfl⟩ := jIx_t (by omega) h.1.1
  obtain ⟨m, hm, rfl⟩ := jIx_t (by omega) h.1.2
  have h3 := h.2
  rw [nI_clamp (by omega), nI_clamp (by omega)] at h3
  exact ⟨k, m, hk, hm, rfl, rfl, h3⟩
theorem jHasRd_t {s : jN} {r : jR} (h729 : ∀ b, jCo s r b < 2 ^ 31) {x y : Int32} (h : jHasRd s r x y = true) : ∃ k rd, k < (jS s).length ∧ x = nI k ∧ y = nI rd ∧ rd < jCo s r (jB s k) := by
  have hSl := jS_len s
  unfold jHasRd at h
  simp only [Bool.and_eq_true, Bool.not_eq_true', decide_eq_false_iff_not, decide_eq_true_eq] at h
  obtain ⟨k, hk, rfl⟩ := jIx_t (by omega) h.1.1
  obtain ⟨rd, hrd, rfl⟩ := nI_of h.1.2
  have h3 := h.2
  rw [nI_clamp (by omega)] at h3
  exact ⟨k, rd, hk, rfl, rfl, (nI_ltI hrd (h729 _)).mp h3⟩
theorem sw_out {y : Int32} {n : Nat} (hn : n < 100) (h : ∀ v, v ≤ n → ¬ y = nI v) : y.toInt < 0 ∨ (n : Int) < y.toInt := by
  refine Classical.byContradiction (fun hc => ?_)
  have h1 : 0 ≤ y.toInt ∧ y.toInt ≤ n := by omega
  refine h y.toInt.toNat (by omega) ?_
  rw [nZ, Int.toNat_of_nonneg h1.1]
  exact iZ_of y
theorem jS_0 (s : jN) : jS (jN0 s) = [] := by
  unfold jS jNext jN0
  show jSets (0, s.2) 31 9999 = []
  unfold jSets
  rw [if_pos (Nat.le_refl _)]
theorem cRep_clear {I : Nat → Nat → Int32} {s : jN} : cRep (aU (aU (aU I 16 0 (nI 0)) 16 5 (nI 0)) 16 11 (nI 0)) (jN0 s) := by
  refine ⟨⟨by rw [aU_n (by omega), aU_n (by omega), aU_s]; rfl, fun i hi => absurd hi (by show ¬ i < 0; omega)⟩, ⟨by show 0 ≤ 16; omega, fun i hi => absurd hi (by show ¬ i < 0; omega)⟩, fun t => by show 0 ≤ 6; omega, ?_, ?_⟩
  · rw [jS_0]; exact ⟨by rw [aU_n (by omega), aU_s]; rfl, fun k q h => by simp at h⟩
  · rw [jS_0]; exact ⟨by rw [aU_s]; rfl, fun k q m h => by simp at h⟩
theorem fold_min {a : Nat} : ∀ (l : List Nat) (a : Nat), l.foldl min a ≤ a ∧ ∀ x, x ∈ l → l.foldl min a ≤ x
  | [], a => ⟨Nat.le_refl _, fun x h => by cases h⟩
  | y :: l, a => by
    obtain ⟨h1, h2⟩ := fold_min (a := a) l (min a y)
    refine ⟨Nat.le_trans h1 (Nat.min_le_left _ _), fun x hx => ?_⟩
    rcases List.mem_cons.mp hx with e | e
    · rw [e]; exact Nat.le_trans h1 (Nat.min_le_right _ _)
    · exact h2 x e
theorem fold_max : ∀ (l : List Nat) (a : Nat), a ≤ l.foldl max a ∧ ∀ x, x ∈ l → x ≤ l.foldl max a
  | [], a => ⟨Nat.le_refl _, fun x h => by cases h⟩
  | y :: l, a => by
    obtain ⟨h1, h2⟩ := fold_max l (max a y)
    refine ⟨Nat.le_trans (Nat.le_max_left _ _) h1, fun x hx => ?_⟩
    rcases List.mem_cons.mp hx with e | e
    · rw [e]; exact Nat.le_trans (Nat.le_max_right _ _) h1
    · exact h2 x e
theorem cnt_in {s : jN} {r : jR} {k : Nat} (hk : k < (jS s).length) : jCo s r (jB s k) ∈ jCnts s r := by
  obtain ⟨q, hq, hqb⟩ := jQ hk
  rw [← hqb]
  exact List.mem_of_getElem? (jCnts_at hq)
theorem czOk_of {s : jN} {r : jR} (h0 : (jS s).length ≠ 0) (h1 : jLeast s r ≠ 0) (h2 : jMost s r ≤ 64) : czOk s r := ⟨by omega, fun k hk => by
  have a := (fold_min (a := 0) (jCnts s r) 64).2 _ (cnt_in (r := r) hk)
  have b := (fold_max (jCnts s r) 0).2 _ (cnt_in (r := r) hk)
  have a' : jLeast s r ≤ jCo s r (jB s k) := a
  have b' : jCo s r (jB s k) ≤ jMost s r := b
  omega⟩
theorem jCn_of {s : jN} {r : jR} (h : czOk s r) {k : Nat} (hk : k < (jS s).length) : jCn s r k = jCo s r (jB s k) ∧ 0 < jCn s r k := by
  have := h.2 k hk
  unfold jCn
  rw [Nat.min_eq_left this.2]
  exact ⟨rfl, this.1⟩
theorem jChs_lt2 {s : jN} {r : jR} (w : jW) (h : czOk s r) : ∀ k, k < (jS s).length → jChs s r w k < jCn s r k
  | 0, hk => jArg_lt _ _ (jCn_of h hk).2
  | k + 1, hk => jMin_lt _ _ (jCn_of h hk).2
theorem gwOk : ∀ i, i < 5 → ([1000000, 99, 99, 99, 99] : List Int32).getD i 0 = nI (gw i)
  | 0, _ => rfl
  | 1, _ => rfl
  | 2, _ => rfl
  | 3, _ => rfl
  | 4, _ => rfl
  | n + 5, h => absurd h (by omega)
theorem gw_le (i : Nat) : gw i ≤ 1000000 := by
  match i with
  | 0 => decide
  | 1 => decide
  | 2 => decide
  | 3 => decide
  | 4 => decide
  | _ + 5 => exact Nat.zero_le _
set_option maxHeartbeats 1000000 in
theorem c_forget {I : Nat → Nat → Int32} {L : Nat → Nat → Int64} {R : Nat → Nat → Option Nat} (hR : aRf R) : aM mX10_forget [.ref 8] (sh0, I, L, R) (fun ans h' => ans = none ∧ h' = (sh0, aU (aU I 8 10 (bI false)) 8 11 (bI false), L, R)) := by
  refine aM_of plX10_forget (Nat.le_of_ble_eq_true rfl) ?_
  refine aX_aload_n dX10_forget_0 rfl ?_
  refine aX_iconst (v := nI 0) dX10_forget_1 (by decide) ?_
  refine pZ (b := false) dX10_forget_2 lfX10_200 (fun _ _ _ hq => by cases hq; exact Or.inl rfl) s8 rfl ?_
  refine aX_aload_n dX10_forget_5 rfl ?_
  refine aX_iconst (v := nI 0) dX10_forget_6 (by decide) ?_
  refine pZ (b := false) dX10_forget_7 lfX10_196 (fun _ _ _ hq => by cases hq; exact Or.inl rfl) s8 rfl ?_
  exact rV dX10_forget_10 rfl (⟨rfl, rfl⟩)
set_option maxHeartbeats 1000000 in
theorem c10_note {I : Nat → Nat → Int32} {L : Nat → Nat → Int64} {R : Nat → Nat → Option Nat} (hR : aRf R) {z : jZ} (hz : clRep I z) {a b c : Int32} : aM mX10_note [.ref 8, .int a, .int b, .int c] (sh0, I, L, R) (fun ans h' => ans = some (.int (oNote z a b c).1) ∧ ∃ I' L', h' = (sh0, I', L', R) ∧ clRep I' (oNote z a b c).2 ∧ clK I I' ∧ clKL L L') := by
  obtain ⟨hc, hr, hg, hw, h10, h11, hpc, hcz, hpz, htx⟩ := id hz
  have hn := hc.2.1.1
  have hSl := jS_len z.1
  refine aM_of plX10_note (Nat.le_of_ble_eq_true rfl) ?_
  refine aX_iload_n dX10_note_0 rfl ?_
  refine aX_if_lt (tgt := 26) dX10_note_1 (by decide) (fun c1 => ?_) (fun c1 => ?_)
  · refine aX_iconst (v := (-1)) dX10_note_26 (by decide) ?_
    exact rI dX10_note_27 rfl (by rw [show oNote z a b c = (-1, z) by unfold oNote; rw [if_neg (by unfold jNv; simp [c1])]]; exact ⟨rfl, I, L, rfl, hz, fun _ _ _ => rfl, fun _ _ _ => rfl⟩)
  · refine aX_iload_n dX10_note_4 rfl ?_
    refine aX_bipush (v := nI 127) dX10_note_5 (by decide) ?_
    refine aX_icmp_gt (tgt := 26) dX10_note_7 (by decide) (fun c2 => ?_) (fun c2 => ?_)
    · refine aX_iconst (v := (-1)) dX10_note_26 (by decide) ?_
      exact rI dX10_note_27 rfl (by rw [show oNote z a b c = (-1, z) by unfold oNote; rw [if_neg (by unfold jNv; simp [c1, c2])]]; exact ⟨rfl, I, L, rfl, hz, fun _ _ _ => rfl, fun _ _ _ => rfl⟩)
    · refine aX_iload_n dX10_note_10 rfl ?_
      refine aX_if_lt (tgt := 26) dX10_note_11 (by decide) (fun c3 => ?_) (fun c3 => ?_)
      · refine aX_iconst (v := (-1)) dX10_note_26 (by decide) ?_
        exact rI dX10_note_27 rfl (by rw [show oNote z a b c = (-1, z) by unfold oNote; rw [if_neg (by unfold jNv; simp [c1, c2, c3])]]; exact ⟨rfl, I, L, rfl, hz, fun _ _ _ => rfl, fun _ _ _ => rfl⟩)
      · refine aX_iload_n dX10_note_14 rfl ?_
        refine aX_iload_n dX10_note_15 rfl ?_
        refine aX_icmp_le (tgt := 26) dX10_note_16 (by decide) (fun c4 => ?_) (fun c4 => ?_)
        · refine aX_iconst (v := (-1)) dX10_note_26 (by decide) ?_
          exact rI dX10_note_27 rfl (by rw [show oNote z a b c = (-1, z) by unfold oNote; rw [if_neg (by unfold jNv; simp [c1, c2, c3, c4])]]; exact ⟨rfl, I, L, rfl, hz, fun _ _ _ => rfl, fun _ _ _ => rfl⟩)
        · refine aX_iload_n dX10_note_19 rfl ?_
          refine aX_sipush (v := nI 9999) dX10_note_20 (by decide) ?_
          refine aX_icmp_le (tgt := 28) dX10_note_23 (by decide) (fun c5 => ?_) (fun c5 => ?_)
          · have hv : jNv a b c = true := by unfold jNv; simp [c1, c2, c3, c4, c5]
            obtain ⟨ka, hka, rfl⟩ := nI_of c1
            obtain ⟨kb, hkb, rfl⟩ := nI_of c3
            obtain ⟨kc, hkc, rfl⟩ := nI_of (x := c) (fun y => c4 (Int32.le_of_lt (Int32.lt_of_lt_of_le y (nI_pos' hkb))))
            have b1 : ka ≤ 127 := Nat.le_of_not_lt (fun y => c2 ((nI_ltI (by omega) hka).mpr y))
            have b2 : kb < kc := Nat.lt_of_not_le (fun y => c4 ((nI_leI hkc hkb).mpr y))
            have b3 : kc ≤ 9999 := (nI_leI hkc (by omega)).mp c5
            refine aX_aload_n dX10_note_28 rfl ?_
            refine aX_get dX10_note_29 lfX10_23 s8 (f8_2 hR) ?_
            refine aX_iload_n dX10_note_32 rfl ?_
            refine aX_iload_n dX10_note_33 rfl ?_
            refine cVp (As := [.int (nI (kb)), .int (nI (kc))]) (st := []) (v := .int (bI (jFull z.1 kb kc))) dX10_note_34 kX10_note_95 s16 aEok0 rfl rfl (Nat.le_of_ble_eq_true rfl) (c_isFullFor hR hc.1 hc.2.1 (by omega) (by omega)) ?_
            refine bEq (tgt := 43) dX10_note_37 (by decide) (fun c6 => ?_) (fun c6 => ?_)
            · refine aX_aload_n dX10_note_43 rfl ?_
              refine cV (As := []) (st := []) dX10_note_44 kX10_note_99 s8 aEok0 rfl rfl (Nat.le_of_ble_eq_true rfl) (c_forget hR) (fun ans' h' hq9 => ?_)
              obtain ⟨rfl, rfl⟩ := hq9
              refine ⟨rfl, ?_⟩
              obtain ⟨I1, hI1⟩ : ∃ y, y = aU (aU I 8 10 (bI false)) 8 11 (bI false) := ⟨_, rfl⟩
              rw [← hI1]
              have hk1 : ∀ q j, q ≠ 8 → I1 q j = I q j := fun q j g => by rw [hI1, aU_n (by omega), aU_n (by omega)]
              have hf0 : I1 8 10 = bI false := by rw [hI1, aU_n (by omega), aU_s]
              have hf1 : I1 8 11 = bI false := by rw [hI1, aU_s]
              have hc1 := cRep_of (fun q j _ _ _ => hk1 q j (by omega)) hc
              have hr1 := rRep_of (fun q j _ _ => hk1 q j (by omega)) hr
              have hw1 := wRep_of (fun j => hk1 9 j (by omega)) hw
              have ht1 := tRep_of (fun q j _ => hk1 q j (by omega)) htx
              have h16 : z.1.1 < 16 := by
                have y := c6
                unfold jFull at y
                simp only [Bool.or_eq_false_iff, decide_eq_false_iff_not] at y
                omega
              refine aX_aload_n dX10_note_47 rfl ?_
              refine aX_get dX10_note_48 lfX10_23 s8 (f8_2 hR) ?_
              refine aX_iload_n dX10_note_51 rfl ?_
              refine aX_iload_n dX10_note_52 rfl ?_
              refine aX_iload_n dX10_note_53 rfl ?_
              refine cV (As := [.int (nI (ka)), .int (nI (kb)), .int (nI (kc))]) (st := []) dX10_note_54 kX10_note_102 s16 aEok0 rfl rfl (Nat.le_of_ble_eq_true rfl) (c_append hR hc1 h16 (jOk_push hc.2.1 h16 b1 b2 b3) (jSix_push hc.2.2.1 c6)) (fun ans' h' hq9 => ?_)
              obtain ⟨rfl, I3, rfl, hc3, hk3⟩ := hq9
              refine ⟨rfl, ?_⟩
              exact rI dX10_note_57 rfl (by rw [show oNote z (nI ka) (nI kb) (nI kc) = (nI z.1.1, jPush z.1 ka kb kc, z.2.1, z.2.2.1, false, false, z.2.2.2.2.2) by unfold oNote; rw [if_pos hv]; simp only [nI_clamp hka, nI_clamp hkb, nI_clamp hkc]; rw [if_neg (by rw [c6]; decide)]]; exact ⟨rfl, I3, L, rfl, clRep_new hc3 (rRep_of (fun q j _ _ => hk3 q j (by omega)) hr1) hg (wRep_of (fun j => hk3 9 j (by omega)) hw1) ((hk3 8 10 (by omega)).trans hf0) ((hk3 8 11 (by omega)).trans hf1) (tRep_of (fun q j _ => hk3 q j (by omega)) ht1), fun q j g => (hk3 q j (by omega)).trans (hk1 q j (by omega)), fun _ _ _ => rfl⟩)
            · refine aX_bipush (v := (-3)) dX10_note_40 (by decide) ?_
              exact rI dX10_note_42 rfl (by rw [show oNote z (nI ka) (nI kb) (nI kc) = (-3, z) by unfold oNote; rw [if_pos hv]; simp only [nI_clamp hka, nI_clamp hkb, nI_clamp hkc]; rw [if_pos c6]]; exact ⟨rfl, I, L, rfl, hz, fun _ _ _ => rfl, fun _ _ _ => rfl⟩)
          · refine aX_iconst (v := (-1)) dX10_note_26 (by decide) ?_
            exact rI dX10_note_27 rfl (by rw [show oNote z a b c = (-1, z) by unfold oNote; rw [if_neg (by unfold jNv; simp [c1, c2, c3, c4, c5])]]; exact ⟨rfl, I, L, rfl, hz, fun _ _ _ => rfl, fun _ _ _ => rfl⟩)
set_option maxHeartbeats 1000000 in
theorem c10_clear {I : Nat → Nat → Int32} {L : Nat → Nat → Int64} {R : Nat → Nat → Option Nat} (hR : aRf R) {z : jZ} (hz : clRep I z) : aM mX10_clear [.ref 8] (sh0, I, L, R) (fun ans h' => ans = some (.int (oClear z).1) ∧ ∃ I' L', h' = (sh0, I', L', R) ∧ clRep I' (oClear z).2 ∧ clK I I' ∧ clKL L L') := by
  obtain ⟨hc, hr, hg, hw, h10, h11, hpc, hcz, hpz, htx⟩ := id hz
  have hn := hc.2.1.1
  have hSl := jS_len z.1
  refine aM_of plX10_clear (Nat.le_of_ble_eq_true rfl) ?_
  refine aX_aload_n dX10_clear_0 rfl ?_
  refine cV (As := []) (st := []) dX10_clear_1 kX10_clear_99 s8 aEok0 rfl rfl (Nat.le_of_ble_eq_true rfl) (c_forget hR) (fun ans' h' hq9 => ?_)
  obtain ⟨rfl, rfl⟩ := hq9
  refine ⟨rfl, ?_⟩
  obtain ⟨I1, hI1⟩ : ∃ y, y = aU (aU I 8 10 (bI false)) 8 11 (bI false) := ⟨_, rfl⟩
  rw [← hI1]
  have hk1 : ∀ q j, q ≠ 8 → I1 q j = I q j := fun q j g => by rw [hI1, aU_n (by omega), aU_n (by omega)]
  have hf0 : I1 8 10 = bI false := by rw [hI1, aU_n (by omega), aU_s]
  have hf1 : I1 8 11 = bI false := by rw [hI1, aU_s]
  have hc1 := cRep_of (fun q j _ _ _ => hk1 q j (by omega)) hc
  have hr1 := rRep_of (fun q j _ _ => hk1 q j (by omega)) hr
  have hw1 := wRep_of (fun j => hk1 9 j (by omega)) hw
  have ht1 := tRep_of (fun q j _ => hk1 q j (by omega)) htx
  refine aX_aload_n dX10_clear_4 rfl ?_
  refine aX_get dX10_clear_5 lfX10_23 s8 (f8_2 hR) ?_
  refine cV (As := []) (st := []) dX10_clear_8 kX10_clear_106 s16 aEok0 rfl rfl (Nat.le_of_ble_eq_true rfl) (c_removeAll hR hc1) (fun ans' h' hq9 => ?_)
  obtain ⟨rfl, rfl⟩ := hq9
  refine ⟨rfl, ?_⟩
  exact rI dX10_clear_11 rfl (⟨rfl, _, L, rfl, clRep_new cRep_clear (rRep_of (fun q j _ _ => by rw [aU_n (by omega), aU_n (by omega), aU_n (by omega)]) hr1) hg (wRep_of (fun j => by rw [aU_n (by omega), aU_n (by omega), aU_n (by omega)]) hw1) (by rw [aU_n (by omega), aU_n (by omega), aU_n (by omega)]; exact hf0) (by rw [aU_n (by omega), aU_n (by omega), aU_n (by omega)]; exact hf1) (tRep_of (fun q j _ => by rw [aU_n (by omega), aU_n (by omega), aU_n (by omega)]) ht1), fun q j g => by rw [aU_n (by omega), aU_n (by omega), aU_n (by omega)]; exact hk1 q j (by omega), fun _ _ _ => rfl⟩)
set_option maxHeartbeats 1000000 in
theorem c10_bind {I : Nat → Nat → Int32} {L : Nat → Nat → Int64} {R : Nat → Nat → Option Nat} (hR : aRf R) {z : jZ} (hz : clRep I z) {x : Int32} {b : Bool} : aM mX10_bind [.ref 8, .int x, .int (bI b)] (sh0, I, L, R) (fun ans h' => ans = some (.int (oBind z x b).1) ∧ ∃ I' L', h' = (sh0, I', L', R) ∧ clRep I' (oBind z x b).2 ∧ clK I I' ∧ clKL L L') := by
  obtain ⟨hc, hr, hg, hw, h10, h11, hpc, hcz, hpz, htx⟩ := id hz
  have hn := hc.2.1.1
  have hSl := jS_len z.1
  refine aM_of plX10_bind (Nat.le_of_ble_eq_true rfl) ?_
  refine aX_aload_n dX10_bind_0 rfl ?_
  refine aX_get dX10_bind_1 lfX10_23 s8 (f8_2 hR) ?_
  refine aX_iload_n dX10_bind_4 rfl ?_
  refine cVp (As := [.int (x)]) (st := []) (v := .int (bI (jIx x z.1.1))) dX10_bind_5 kX10_bind_110 s16 aEok0 rfl rfl (Nat.le_of_ble_eq_true rfl) (c_hasNoteX hR hc) ?_
  refine bNe (tgt := 13) dX10_bind_8 (by decide) (fun c1 => ?_) (fun c1 => ?_)
  · obtain ⟨i, hi, rfl⟩ := jIx_t (by omega) c1
    refine aX_aload_n dX10_bind_13 rfl ?_
    refine cV (As := []) (st := []) dX10_bind_14 kX10_bind_99 s8 aEok0 rfl rfl (Nat.le_of_ble_eq_true rfl) (c_forget hR) (fun ans' h' hq9 => ?_)
    obtain ⟨rfl, rfl⟩ := hq9
    refine ⟨rfl, ?_⟩
    obtain ⟨I1, hI1⟩ : ∃ y, y = aU (aU I 8 10 (bI false)) 8 11 (bI false) := ⟨_, rfl⟩
    rw [← hI1]
    have hk1 : ∀ q j, q ≠ 8 → I1 q j = I q j := fun q j g => by rw [hI1, aU_n (by omega), aU_n (by omega)]
    have hf0 : I1 8 10 = bI false := by rw [hI1, aU_n (by omega), aU_s]
    have hf1 : I1 8 11 = bI false := by rw [hI1, aU_s]
    have hc1 := cRep_of (fun q j _ _ _ => hk1 q j (by omega)) hc
    have hr1 := rRep_of (fun q j _ _ => hk1 q j (by omega)) hr
    have hw1 := wRep_of (fun j => hk1 9 j (by omega)) hw
    have ht1 := tRep_of (fun q j _ => hk1 q j (by omega)) htx
    refine aX_aload_n dX10_bind_17 rfl ?_
    refine aX_get dX10_bind_18 lfX10_23 s8 (f8_2 hR) ?_
    refine aX_iload_n dX10_bind_21 rfl ?_
    refine aX_iload_n dX10_bind_22 rfl ?_
    refine cV (As := [.int (nI (i)), .int (bI (b))]) (st := []) dX10_bind_23 kX10_bind_114 s16 aEok0 rfl rfl (Nat.le_of_ble_eq_true rfl) (c_tie hR hc1 hi) (fun ans' h' hq9 => ?_)
    obtain ⟨rfl, I3, rfl, hc3, hk3⟩ := hq9
    refine ⟨rfl, ?_⟩
    refine bEq (tgt := 33) dX10_bind_26 (by decide) (fun c2 => ?_) (fun c2 => ?_)
    · refine aX_iconst (v := nI 0) dX10_bind_33 (by decide) ?_
      exact rI dX10_bind_34 rfl (by rw [show oBind z (nI i) b = (nI 0, jBind z.1 i b, z.2.1, z.2.2.1, false, false, z.2.2.2.2.2) by unfold oBind; rw [if_pos c1]; simp only [nI_clamp (show i < 2 ^ 31 by omega), c2]; rfl]; exact ⟨rfl, I3, L, rfl, clRep_new hc3 (rRep_of (fun q j _ _ => hk3 q j (by omega)) hr1) hg (wRep_of (fun j => hk3 9 j (by omega)) hw1) ((hk3 8 10 (by omega)).trans hf0) ((hk3 8 11 (by omega)).trans hf1) (tRep_of (fun q j _ => hk3 q j (by omega)) ht1), fun q j g => (hk3 q j (by omega)).trans (hk1 q j (by omega)), fun _ _ _ => rfl⟩)
    · refine aX_iconst (v := nI 1) dX10_bind_29 (by decide) ?_
      refine aX_goto (tgt := 34) dX10_bind_30 (by decide) ?_
      exact rI dX10_bind_34 rfl (by rw [show oBind z (nI i) b = (nI 1, jBind z.1 i b, z.2.1, z.2.2.1, false, false, z.2.2.2.2.2) by unfold oBind; rw [if_pos c1]; simp only [nI_clamp (show i < 2 ^ 31 by omega), c2]; rfl]; exact ⟨rfl, I3, L, rfl, clRep_new hc3 (rRep_of (fun q j _ _ => hk3 q j (by omega)) hr1) hg (wRep_of (fun j => hk3 9 j (by omega)) hw1) ((hk3 8 10 (by omega)).trans hf0) ((hk3 8 11 (by omega)).trans hf1) (tRep_of (fun q j _ => hk3 q j (by omega)) ht1), fun q j g => (hk3 q j (by omega)).trans (hk1 q j (by omega)), fun _ _ _ => rfl⟩)
  · refine aX_iconst (v := (-1)) dX10_bind_11 (by decide) ?_
    exact rI dX10_bind_12 rfl (by rw [show oBind z x b = (-1, z) by unfold oBind; rw [if_neg (by simp [c1])]]; exact ⟨rfl, I, L, rfl, hz, fun _ _ _ => rfl, fun _ _ _ => rfl⟩)
set_option maxHeartbeats 1000000 in
theorem c10_ratio {I : Nat → Nat → Int32} {L : Nat → Nat → Int64} {R : Nat → Nat → Option Nat} (hR : aRf R) {z : jZ} (hz : clRep I z) {x u d : Int32} : aM mX10_ratio [.ref 8, .int x, .int u, .int d] (sh0, I, L, R) (fun ans h' => ans = some (.int (oRatio z x u d).1) ∧ ∃ I' L', h' = (sh0, I', L', R) ∧ clRep I' (oRatio z x u d).2 ∧ clK I I' ∧ clKL L L') := by
  obtain ⟨hc, hr, hg, hw, h10, h11, hpc, hcz, hpz, htx⟩ := id hz
  have hn := hc.2.1.1
  have hSl := jS_len z.1
  have hrk := fun c (hcc : c < 12) => (hr.1 c hcc).1
  refine aM_of plX10_ratio (Nat.le_of_ble_eq_true rfl) ?_
  refine aX_iload_n dX10_ratio_0 rfl ?_
  refine aX_if_lt (tgt := 31) dX10_ratio_1 (by decide) (fun c1 => ?_) (fun c1 => ?_)
  · refine aX_iconst (v := (-1)) dX10_ratio_31 (by decide) ?_
    exact rI dX10_ratio_32 rfl (by rw [show oRatio z x u d = (-1, z) by unfold oRatio; rw [if_neg (by rw [jIx_neg c1]; simp)]]; exact ⟨rfl, I, L, rfl, hz, fun _ _ _ => rfl, fun _ _ _ => rfl⟩)
  · refine aX_iload_n dX10_ratio_4 rfl ?_
    refine aX_bipush (v := nI 12) dX10_ratio_5 (by decide) ?_
    refine aX_icmp_ge (tgt := 31) dX10_ratio_7 (by decide) (fun c2 => ?_) (fun c2 => ?_)
    · refine aX_iconst (v := (-1)) dX10_ratio_31 (by decide) ?_
      exact rI dX10_ratio_32 rfl (by rw [show oRatio z x u d = (-1, z) by unfold oRatio; rw [if_neg (by rw [jIx_ge c2]; simp)]]; exact ⟨rfl, I, L, rfl, hz, fun _ _ _ => rfl, fun _ _ _ => rfl⟩)
    · have hix : jIx x 12 = true := jIx_in c1 c2
      obtain ⟨c, hcc, rfl⟩ := jIx_t (by omega) hix
      have hrc := hrk c hcc
      refine aX_iload_n dX10_ratio_10 rfl ?_
      refine aX_iload_n dX10_ratio_11 rfl ?_
      refine cSp (As := [.int (u), .int (d)]) (st := []) (v := .int (bI (jAl u d))) dX10_ratio_12 kX10_ratio_118 aEok0 rfl rfl (Nat.le_of_ble_eq_true rfl) (c_isAllowed) ?_
      refine bEq (tgt := 31) dX10_ratio_15 (by decide) (fun c3 => ?_) (fun c3 => ?_)
      · refine aX_iconst (v := (-1)) dX10_ratio_31 (by decide) ?_
        exact rI dX10_ratio_32 rfl (by rw [show oRatio z (nI c) u d = (-1, z) by unfold oRatio; rw [if_neg (by simp [c3])]]; exact ⟨rfl, I, L, rfl, hz, fun _ _ _ => rfl, fun _ _ _ => rfl⟩)
      · have hal := c3
        unfold jAl jTn at hal
        simp only [Bool.and_eq_true, decide_eq_true_eq] at hal
        obtain ⟨⟨⟨u1, u2⟩, d1, d2⟩, hal⟩ := hal
        obtain ⟨ku, hku, rfl⟩ := nI_of (x := u) (fun y => absurd (Int32.lt_of_lt_of_le y (show (0 : Int32) ≤ 1 by decide)) (Int32.not_lt.mpr u1))
        obtain ⟨kd, hkd, rfl⟩ := nI_of (x := d) (fun y => absurd (Int32.lt_of_lt_of_le y (show (0 : Int32) ≤ 1 by decide)) (Int32.not_lt.mpr d1))
        have v1 : 1 ≤ ku := (nI_leI (by omega) hku).mp u1
        have v2 : ku ≤ 9999 := (nI_leI hku (by omega)).mp u2
        have v3 : 1 ≤ kd := (nI_leI (by omega) hkd).mp d1
        have v4 : kd ≤ 9999 := (nI_leI hkd (by omega)).mp d2
        rw [nI_clamp hku, nI_clamp hkd] at hal
        refine aX_aload_n dX10_ratio_18 rfl ?_
        refine aX_get dX10_ratio_19 lfX10_16 s8 (f8_1 hR) ?_
        refine aX_iload_n dX10_ratio_22 rfl ?_
        refine aX_iload_n dX10_ratio_23 rfl ?_
        refine aX_iload_n dX10_ratio_24 rfl ?_
        refine cVp (As := [.int (nI (c)), .int (nI (ku)), .int (nI (kd))]) (st := []) (v := .int (bI (jHas z.2.1 c (nI ku) (nI kd) (z.2.1.1 c)))) dX10_ratio_25 kX10_ratio_121 s10 aEok0 rfl rfl (Nat.le_of_ble_eq_true rfl) (c_holds hR hr hcc) ?_
        refine bEq (tgt := 33) dX10_ratio_28 (by decide) (fun c4 => ?_) (fun c4 => ?_)
        · refine aX_aload_n dX10_ratio_33 rfl ?_
          refine aX_get dX10_ratio_34 lfX10_16 s8 (f8_1 hR) ?_
          refine aX_get dX10_ratio_37 lfX10_125 s10 (f10_4 hR) ?_
          refine aX_iload_n dX10_ratio_40 rfl ?_
          refine nIald (v := nI (z.2.1.1 c)) dX10_ratio_41 s15 (by first | omega | exact Nat.lt_of_le_of_lt (Nat.mod_le _ _) (by omega)) (by decide) ((hr.2.1 c hcc).1) ?_
          refine aX_iconst (v := nI 3) dX10_ratio_42 (by decide) ?_
          refine nLt (tgt := 49) dX10_ratio_43 (by decide) (by first | omega | exact Nat.lt_of_le_of_lt (Nat.mod_le _ _) (by omega)) (by first | omega | exact Nat.lt_of_le_of_lt (Nat.mod_le _ _) (by omega)) (fun c5 => ?_) (fun c5 => ?_)
          · refine aX_aload_n dX10_ratio_49 rfl ?_
            refine cV (As := []) (st := []) dX10_ratio_50 kX10_ratio_99 s8 aEok0 rfl rfl (Nat.le_of_ble_eq_true rfl) (c_forget hR) (fun ans' h' hq9 => ?_)
            obtain ⟨rfl, rfl⟩ := hq9
            refine ⟨rfl, ?_⟩
            obtain ⟨I1, hI1⟩ : ∃ y, y = aU (aU I 8 10 (bI false)) 8 11 (bI false) := ⟨_, rfl⟩
            rw [← hI1]
            have hk1 : ∀ q j, q ≠ 8 → I1 q j = I q j := fun q j g => by rw [hI1, aU_n (by omega), aU_n (by omega)]
            have hf0 : I1 8 10 = bI false := by rw [hI1, aU_n (by omega), aU_s]
            have hf1 : I1 8 11 = bI false := by rw [hI1, aU_s]
            have hc1 := cRep_of (fun q j _ _ _ => hk1 q j (by omega)) hc
            have hr1 := rRep_of (fun q j _ _ => hk1 q j (by omega)) hr
            have hw1 := wRep_of (fun j => hk1 9 j (by omega)) hw
            have ht1 := tRep_of (fun q j _ => hk1 q j (by omega)) htx
            have h3 : z.2.1.1 c < 3 := by omega
            refine aX_aload_n dX10_ratio_53 rfl ?_
            refine aX_get dX10_ratio_54 lfX10_16 s8 (f8_1 hR) ?_
            refine aX_iload_n dX10_ratio_57 rfl ?_
            refine aX_iload_n dX10_ratio_58 rfl ?_
            refine aX_iload_n dX10_ratio_59 rfl ?_
            refine cV (As := [.int (nI (c)), .int (nI (ku)), .int (nI (kd))]) (st := []) dX10_ratio_60 kX10_ratio_128 s10 aEok0 rfl rfl (Nat.le_of_ble_eq_true rfl) (c_rappend hR hr1 hcc h3 v1 v2 v3 v4) (fun ans' h' hq9 => ?_)
            obtain ⟨rfl, I3, rfl, hr3, hk3⟩ := hq9
            refine ⟨rfl, ?_⟩
            have hg3 : rGood (rPush z.2.1 c ku kd) := fun a i ha hi => by
              unfold rPush at hi ⊢
              have hrc := (hr.1 a ha).1
              by_cases e : a = c
              · subst e
                simp only [va_up, if_true] at hi ⊢
                by_cases e2 : i = z.2.1.1 a
                · subst e2; simp [hal]
                · rw [if_neg (by omega), if_neg (by omega)]; exact hg a i ha (by omega)
              · simp only [va_up, if_neg e] at hi ⊢
                rw [if_neg (by omega), if_neg (by omega)]; exact hg a i ha hi
            exact rI dX10_ratio_63 rfl (by rw [show oRatio z (nI c) (nI ku) (nI kd) = (nI (z.2.1.1 c), z.1, rPush z.2.1 c ku kd, z.2.2.1, false, false, z.2.2.2.2.2) by unfold oRatio; simp only [nI_clamp (show c < 2 ^ 31 by omega), nI_clamp hku, nI_clamp hkd]; rw [if_pos (by rw [hix, c3, c4]; rfl)]; rw [if_neg (by omega)]]; exact ⟨rfl, I3, L, rfl, clRep_new (cRep_of (fun q j _ _ _ => hk3 q j (by omega)) hc1) hr3 hg3 (wRep_of (fun j => hk3 9 j (by omega)) hw1) ((hk3 8 10 (by omega)).trans hf0) ((hk3 8 11 (by omega)).trans hf1) (tRep_of (fun q j _ => hk3 q j (by omega)) ht1), fun q j g => (hk3 q j (by omega)).trans (hk1 q j (by omega)), fun _ _ _ => rfl⟩)
          · refine aX_bipush (v := (-3)) dX10_ratio_46 (by decide) ?_
            exact rI dX10_ratio_48 rfl (by rw [show oRatio z (nI c) (nI ku) (nI kd) = (-3, z) by unfold oRatio; simp only [nI_clamp (show c < 2 ^ 31 by omega), nI_clamp hku, nI_clamp hkd]; rw [if_pos (by rw [hix, c3, c4]; rfl)]; rw [if_pos (by omega)]]; exact ⟨rfl, I, L, rfl, hz, fun _ _ _ => rfl, fun _ _ _ => rfl⟩)
        · refine aX_iconst (v := (-1)) dX10_ratio_31 (by decide) ?_
          exact rI dX10_ratio_32 rfl (by rw [show oRatio z (nI c) (nI ku) (nI kd) = (-1, z) by unfold oRatio; simp only [nI_clamp (show c < 2 ^ 31 by omega)]; rw [if_neg (by rw [c4]; simp)]]; exact ⟨rfl, I, L, rfl, hz, fun _ _ _ => rfl, fun _ _ _ => rfl⟩)
set_option maxHeartbeats 1000000 in
theorem c10_empty {I : Nat → Nat → Int32} {L : Nat → Nat → Int64} {R : Nat → Nat → Option Nat} (hR : aRf R) {z : jZ} (hz : clRep I z) {x : Int32} : aM mX10_empty [.ref 8, .int x] (sh0, I, L, R) (fun ans h' => ans = some (.int (oEmpty z x).1) ∧ ∃ I' L', h' = (sh0, I', L', R) ∧ clRep I' (oEmpty z x).2 ∧ clK I I' ∧ clKL L L') := by
  obtain ⟨hc, hr, hg, hw, h10, h11, hpc, hcz, hpz, htx⟩ := id hz
  have hn := hc.2.1.1
  have hSl := jS_len z.1
  refine aM_of plX10_empty (Nat.le_of_ble_eq_true rfl) ?_
  refine aX_iload_n dX10_empty_0 rfl ?_
  refine aX_if_lt (tgt := 10) dX10_empty_1 (by decide) (fun c1 => ?_) (fun c1 => ?_)
  · refine aX_iconst (v := (-1)) dX10_empty_10 (by decide) ?_
    exact rI dX10_empty_11 rfl (by rw [show oEmpty z x = (-1, z) by unfold oEmpty; rw [if_neg (by first | (rw [jIx_neg c1]; simp) | (rw [jIx_ge (Int32.not_lt.mp c2)]; simp))]]; exact ⟨rfl, I, L, rfl, hz, fun _ _ _ => rfl, fun _ _ _ => rfl⟩)
  · refine aX_iload_n dX10_empty_4 rfl ?_
    refine aX_bipush (v := nI 12) dX10_empty_5 (by decide) ?_
    refine aX_icmp_lt (tgt := 12) dX10_empty_7 (by decide) (fun c2 => ?_) (fun c2 => ?_)
    · have hix : jIx x 12 = true := jIx_in c1 (fun y => absurd c2 (Int32.not_lt.mpr y))
      obtain ⟨c, hcc, rfl⟩ := jIx_t (by omega) hix
      refine aX_aload_n dX10_empty_12 rfl ?_
      refine cV (As := []) (st := []) dX10_empty_13 kX10_empty_99 s8 aEok0 rfl rfl (Nat.le_of_ble_eq_true rfl) (c_forget hR) (fun ans' h' hq9 => ?_)
      obtain ⟨rfl, rfl⟩ := hq9
      refine ⟨rfl, ?_⟩
      obtain ⟨I1, hI1⟩ : ∃ y, y = aU (aU I 8 10 (bI false)) 8 11 (bI false) := ⟨_, rfl⟩
      rw [← hI1]
      have hk1 : ∀ q j, q ≠ 8 → I1 q j = I q j := fun q j g => by rw [hI1, aU_n (by omega), aU_n (by omega)]
      have hf0 : I1 8 10 = bI false := by rw [hI1, aU_n (by omega), aU_s]
      have hf1 : I1 8 11 = bI false := by rw [hI1, aU_s]
      have hc1 := cRep_of (fun q j _ _ _ => hk1 q j (by omega)) hc
      have hr1 := rRep_of (fun q j _ _ => hk1 q j (by omega)) hr
      have hw1 := wRep_of (fun j => hk1 9 j (by omega)) hw
      have ht1 := tRep_of (fun q j _ => hk1 q j (by omega)) htx
      refine aX_aload_n dX10_empty_16 rfl ?_
      refine aX_get dX10_empty_17 lfX10_16 s8 (f8_1 hR) ?_
      refine aX_iload_n dX10_empty_20 rfl ?_
      refine cV (As := [.int (nI (c))]) (st := []) dX10_empty_21 kX10_empty_129 s10 aEok0 rfl rfl (Nat.le_of_ble_eq_true rfl) (c_rremoveAll hR hr1 hcc) (fun ans' h' hq9 => ?_)
      obtain ⟨rfl, rfl⟩ := hq9
      refine ⟨rfl, ?_⟩
      have hg3 : rGood (rClear z.2.1 c) := fun a i ha hi => by
        unfold rClear at hi ⊢
        by_cases e : a = c
        · subst e; simp [va_up] at hi
        · simp only [va_up, if_neg e] at hi; exact hg a i ha hi
      exact rI dX10_empty_24 rfl (by rw [show oEmpty z (nI c) = (nI (z.2.1.1 c), z.1, rClear z.2.1 c, z.2.2.1, false, false, z.2.2.2.2.2) by unfold oEmpty; rw [if_pos hix]; simp only [nI_clamp (show c < 2 ^ 31 by omega)]]; exact ⟨rfl, _, L, rfl, clRep_new (cRep_of (fun q j _ _ _ => by rw [aU_n (by omega)]) hc1) (rRep_clear hr1) hg3 (wRep_of (fun j => by rw [aU_n (by omega)]) hw1) (by rw [aU_n (by omega)]; exact hf0) (by rw [aU_n (by omega)]; exact hf1) (tRep_of (fun q j _ => by rw [aU_n (by omega)]) ht1), fun q j g => by rw [aU_n (by omega)]; exact hk1 q j (by omega), fun _ _ _ => rfl⟩)
    · refine aX_iconst (v := (-1)) dX10_empty_10 (by decide) ?_
      exact rI dX10_empty_11 rfl (by rw [show oEmpty z x = (-1, z) by unfold oEmpty; rw [if_neg (by first | (rw [jIx_neg c1]; simp) | (rw [jIx_ge (Int32.not_lt.mp c2)]; simp))]]; exact ⟨rfl, I, L, rfl, hz, fun _ _ _ => rfl, fun _ _ _ => rfl⟩)
set_option maxHeartbeats 1000000 in
theorem c10_weight {I : Nat → Nat → Int32} {L : Nat → Nat → Int64} {R : Nat → Nat → Option Nat} (hR : aRf R) {z : jZ} (hz : clRep I z) {x v : Int32} : aM mX10_weight [.ref 8, .int x, .int v] (sh0, I, L, R) (fun ans h' => ans = some (.int (oWeight z x v).1) ∧ ∃ I' L', h' = (sh0, I', L', R) ∧ clRep I' (oWeight z x v).2 ∧ clK I I' ∧ clKL L L') := by
  obtain ⟨hc, hr, hg, hw, h10, h11, hpc, hcz, hpz, htx⟩ := id hz
  have hn := hc.2.1.1
  have hSl := jS_len z.1
  refine aM_of plX10_weight (Nat.le_of_ble_eq_true rfl) ?_
  refine aX_iload_n dX10_weight_0 rfl ?_
  refine aX_if_lt (tgt := 22) dX10_weight_1 (by decide) (fun c1 => ?_) (fun c1 => ?_)
  · refine aX_iconst (v := (-1)) dX10_weight_22 (by decide) ?_
    exact rI dX10_weight_23 rfl (by rw [show oWeight z x v = (-1, z) by unfold oWeight; rw [if_neg (by rw [jIx_neg c1]; simp)]]; exact ⟨rfl, I, L, rfl, hz, fun _ _ _ => rfl, fun _ _ _ => rfl⟩)
  · refine aX_iload_n dX10_weight_4 rfl ?_
    refine aX_iconst (v := nI 5) dX10_weight_5 (by decide) ?_
    refine aX_icmp_ge (tgt := 22) dX10_weight_6 (by decide) (fun c2 => ?_) (fun c2 => ?_)
    · refine aX_iconst (v := (-1)) dX10_weight_22 (by decide) ?_
      exact rI dX10_weight_23 rfl (by rw [show oWeight z x v = (-1, z) by unfold oWeight; rw [if_neg (by rw [jIx_ge c2]; simp)]]; exact ⟨rfl, I, L, rfl, hz, fun _ _ _ => rfl, fun _ _ _ => rfl⟩)
    · have hix : jIx x 5 = true := jIx_in c1 c2
      obtain ⟨i, hi, rfl⟩ := jIx_t (by omega) hix
      have hgw := gw_le i
      refine aX_iload_n dX10_weight_9 rfl ?_
      refine aX_if_lt (tgt := 22) dX10_weight_10 (by decide) (fun c3 => ?_) (fun c3 => ?_)
      · refine aX_iconst (v := (-1)) dX10_weight_22 (by decide) ?_
        exact rI dX10_weight_23 rfl (by rw [show oWeight z (nI i) v = (-1, z) by unfold oWeight; rw [if_neg (by simp [c3])]]; exact ⟨rfl, I, L, rfl, hz, fun _ _ _ => rfl, fun _ _ _ => rfl⟩)
      · refine aX_iload_n dX10_weight_13 rfl ?_
        refine aX_gets (i := 5) dX10_weight_14 rfl (Or.inl lgX10_132) ?_
        refine aX_iload_n dX10_weight_17 rfl ?_
        refine nEld dX10_weight_18 rfl (by first | omega | exact Nat.lt_of_le_of_lt (Nat.mod_le _ _) (by omega)) (by decide) (gwOk i hi) ?_
        refine aX_icmp_le (tgt := 24) dX10_weight_19 (by decide) (fun c4 => ?_) (fun c4 => ?_)
        · obtain ⟨kv, hkv, rfl⟩ := nI_of c3
          have hvg : kv ≤ gw i := (nI_leI hkv (by omega)).mp c4
          refine aX_aload_n dX10_weight_24 rfl ?_
          refine cV (As := []) (st := []) dX10_weight_25 kX10_weight_99 s8 aEok0 rfl rfl (Nat.le_of_ble_eq_true rfl) (c_forget hR) (fun ans' h' hq9 => ?_)
          obtain ⟨rfl, rfl⟩ := hq9
          refine ⟨rfl, ?_⟩
          obtain ⟨I1, hI1⟩ : ∃ y, y = aU (aU I 8 10 (bI false)) 8 11 (bI false) := ⟨_, rfl⟩
          rw [← hI1]
          have hk1 : ∀ q j, q ≠ 8 → I1 q j = I q j := fun q j g => by rw [hI1, aU_n (by omega), aU_n (by omega)]
          have hf0 : I1 8 10 = bI false := by rw [hI1, aU_n (by omega), aU_s]
          have hf1 : I1 8 11 = bI false := by rw [hI1, aU_s]
          have hc1 := cRep_of (fun q j _ _ _ => hk1 q j (by omega)) hc
          have hr1 := rRep_of (fun q j _ _ => hk1 q j (by omega)) hr
          have hw1 := wRep_of (fun j => hk1 9 j (by omega)) hw
          have ht1 := tRep_of (fun q j _ => hk1 q j (by omega)) htx
          refine aX_aload_n dX10_weight_28 rfl ?_
          refine aX_get dX10_weight_29 lfX10_9 s8 (f8_0 hR) ?_
          refine aX_iload_n dX10_weight_32 rfl ?_
          refine nIald (v := nI (z.2.2.1 i)) dX10_weight_33 s9 (by first | omega | exact Nat.lt_of_le_of_lt (Nat.mod_le _ _) (by omega)) (by decide) (hw1.2 i hi) ?_
          refine aX_istore_n (lv' := [(0, .ref 8), (1, .int (nI (i))), (2, .int (nI (kv))), (3, .int (nI (z.2.2.1 i)))]) dX10_weight_34 (by decide) rfl ?_
          refine aX_aload_n dX10_weight_35 rfl ?_
          refine aX_get dX10_weight_36 lfX10_9 s8 (f8_0 hR) ?_
          refine aX_iload_n dX10_weight_39 rfl ?_
          refine aX_iload_n dX10_weight_40 rfl ?_
          refine nIast dX10_weight_41 s9 (by first | omega | exact Nat.lt_of_le_of_lt (Nat.mod_le _ _) (by omega)) (by decide) ?_
          obtain ⟨I3, hI3⟩ : ∃ y, y = (aU I1 9 i (nI (kv))) := ⟨_, rfl⟩
          rw [← hI3]
          have hk3 : ∀ q j, q ≠ 9 → I3 q j = I1 q j := fun q j g => by rw [hI3, aU_n (by omega)]
          have hw3 : wRep I3 (va_up z.2.2.1 i kv) := by
            refine ⟨⟨?_, fun a h1 h2 => ?_⟩, fun a ha => ?_⟩
            · by_cases e : 0 = i
              · subst e; simp only [va_up, if_true]; exact hvg
              · simp only [va_up, if_neg e]; exact hw.1.1
            · by_cases e : a = i
              · subst e; simp only [va_up, if_true]
                have : gw a = 99 := by
                  rcases (show a = 1 ∨ a = 2 ∨ a = 3 ∨ a = 4 by omega) with q | q | q | q <;> rw [q] <;> rfl
                omega
              · simp only [va_up, if_neg e]; exact hw.1.2 a h1 h2
            · by_cases e : a = i
              · subst e; rw [hI3, aU_s]; simp [va_up]
              · rw [hI3, aU_n (by omega)]; simp only [va_up, if_neg e]; exact hw1.2 a ha
          refine aX_iload_n dX10_weight_42 rfl ?_
          exact rI dX10_weight_43 rfl (by rw [show oWeight z (nI i) (nI kv) = (nI (z.2.2.1 i), z.1, z.2.1, va_up z.2.2.1 i kv, false, false, z.2.2.2.2.2) by unfold oWeight; simp only [nI_clamp (show i < 2 ^ 31 by omega), nI_clamp hkv]; rw [if_pos (by rw [hix]; simp [c3, c4])]]; exact ⟨rfl, I3, L, rfl, clRep_new (cRep_of (fun q j _ _ _ => hk3 q j (by omega)) hc1) (rRep_of (fun q j _ _ => hk3 q j (by omega)) hr1) hg hw3 ((hk3 8 10 (by omega)).trans hf0) ((hk3 8 11 (by omega)).trans hf1) (tRep_of (fun q j _ => hk3 q j (by omega)) ht1), fun q j g => (hk3 q j (by omega)).trans (hk1 q j (by omega)), fun _ _ _ => rfl⟩)
        · refine aX_iconst (v := (-1)) dX10_weight_22 (by decide) ?_
          exact rI dX10_weight_23 rfl (by rw [show oWeight z (nI i) v = (-1, z) by unfold oWeight; rw [if_neg (by simp only [nI_clamp (show i < 2 ^ 31 by omega)]; simp [c4])]]; exact ⟨rfl, I, L, rfl, hz, fun _ _ _ => rfl, fun _ _ _ => rfl⟩)
