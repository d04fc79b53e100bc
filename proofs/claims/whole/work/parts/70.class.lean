/-! THE CLASS'S FRACTIONS -/
theorem sv_abs (N : Int) : sv (decide (N < 0)) (N.natAbs : Int) = N := by
  unfold sv
  by_cases e : N < 0
  · rw [if_pos (by simp [e])]; omega
  · rw [if_neg (by simp [e])]; omega
theorem zV_20 {s : jN} {r : jR} {w : jW} (hn : jVn s ≤ 20) : zV s r w 20 = zD s r (jChs s r w) w := by unfold zV; rw [if_neg (by omega), if_pos rfl]
theorem zV_N {s : jN} {r : jR} {w : jW} {i : Nat} (hi : i < jVn s) : zV s r w i = zN s r (jChs s r w) w i := if_pos hi
theorem zV_b {s : jN} (h6 : jSix s) {r : jR} (hr : rOk r) (hg : rGood r) {w : jW} (hw : wOk w) (hn : jVn s ≤ 20) (a : Nat) : ((zV s r w a).natAbs : Int) < 2 ^ 328 := zV_lt h6 hr hg hw hn a
theorem pow_jBB : (2 : Int) ^ 328 + 2 ^ 328 < jBB 12 := by rw [jBB_12]; decide +kernel
theorem pow_264 {D : Int} (h : D < 2 ^ 264) {n : Int} (h0 : 0 ≤ n) (hn : n ≤ 4294967296) (hD : 0 < D) : D * n < 2 ^ 328 := by
  have h1 : D * n ≤ 2 ^ 264 * 4294967296 := Int.mul_le_mul (Int.le_of_lt h) hn h0 (by decide +kernel)
  have h2 : (2 : Int) ^ 264 * 4294967296 < 2 ^ 328 := by decide +kernel
  omega
set_option maxHeartbeats 1000000 in
theorem c_takeMove {I : Nat → Nat → Int32} {L : Nat → Nat → Int64} {R : Nat → Nat → Option Nat} (hR : aRf R) {z : jZ} (hz : clRep I z) {x y : Int32} : aM mX10_takeMove [.ref 8, .int x, .int y] (sh0, I, L, R) (fun ans h' => (jPart z.1 x y = false ∧ ans = some (.int (-1)) ∧ h' = (sh0, I, L, R)) ∨ (jPart z.1 x y = true ∧ z.2.2.2.2.1 = false ∧ ans = some (.int (-2)) ∧ h' = (sh0, I, L, R)) ∨ (jPart z.1 x y = true ∧ z.2.2.2.2.1 = true ∧ ans = some (.int (nI 0)) ∧ ∃ I', h' = (sh0, I', L, R) ∧ wR I' 29 ((zV z.1 z.2.1 z.2.2.1 (jV z.1 (cn0 x) (cn0 y))).natAbs : Int) (decide (zV z.1 z.2.1 z.2.2.1 (jV z.1 (cn0 x) (cn0 y)) < 0)) ∧ wR I' 31 ((zV z.1 z.2.1 z.2.2.1 20).natAbs : Int) false ∧ fK I I')) := by
  obtain ⟨hc, hr, hg, hw, h10, h11, hpc, hcz, hpz, htx⟩ := id hz
  have hn := hc.2.1.1
  have hSl := jS_len z.1
  refine aM_of plX10_takeMove (Nat.le_of_ble_eq_true rfl) ?_
  refine aX_aload_n dX10_takeMove_0 rfl ?_
  refine aX_get dX10_takeMove_1 lfX10_23 s8 (f8_2 hR) ?_
  refine aX_iload_n dX10_takeMove_4 rfl ?_
  refine aX_iload_n dX10_takeMove_5 rfl ?_
  refine cVp (As := [.int (x), .int (y)]) (st := []) (v := .int (bI (jPart z.1 x y))) dX10_takeMove_6 kX10_takeMove_163 s16 aEok0 rfl rfl (Nat.le_of_ble_eq_true rfl) (c_isPart hR hc) ?_
  refine bNe (tgt := 14) dX10_takeMove_9 (by decide) (fun c1 => ?_) (fun c1 => ?_)
  · obtain ⟨k, m, hk, hm, rfl, rfl, hon⟩ := jPart_t2 hn c1
    have hvl := jV_lt hk hm hon
    refine aX_aload_n dX10_takeMove_14 rfl ?_
    refine aX_get (v := .int (bI (z.2.2.2.2.1))) dX10_takeMove_15 lfX10_196 s8 (congrArg Value.int (h11)) ?_
    refine bNe (tgt := 24) dX10_takeMove_18 (by decide) (fun c2 => ?_) (fun c2 => ?_)
    · obtain ⟨p1, p2, p3⟩ := hpz c2
      have hDp : 0 < zV z.1 z.2.1 z.2.2.1 20 := by rw [zV_20 p1]; exact zD_pos hr.1 hg hw.1
      refine aX_aload_n dX10_takeMove_24 rfl ?_
      refine aX_get dX10_takeMove_25 lfX10_30 s8 (f8_8 hR) ?_
      refine aX_aload_n dX10_takeMove_28 rfl ?_
      refine aX_get dX10_takeMove_29 lfX10_91 s8 (f8_7 hR) ?_
      refine aX_get dX10_takeMove_32 lfX10_241 s77 (f77_1 hR) ?_
      refine aX_aload_n dX10_takeMove_35 rfl ?_
      refine aX_get dX10_takeMove_36 lfX10_23 s8 (f8_2 hR) ?_
      refine aX_iload_n dX10_takeMove_39 rfl ?_
      refine aX_iload_n dX10_takeMove_40 rfl ?_
      refine cVp (As := [.int (nI (k)), .int (nI (m))]) (st := [.ref 78, .ref 28]) (v := .int (nI (jV z.1 k m))) dX10_takeMove_41 kX10_takeMove_221 s16 aEok0 rfl rfl (Nat.le_of_ble_eq_true rfl) (c_varOf hR hc hk hm hon) ?_
      refine nAald (r := 115 + 2 * (jV z.1 k m)) dX10_takeMove_44 s78 (by decide) (by first | omega | exact Nat.lt_of_le_of_lt (Nat.mod_le _ _) (by omega)) (by decide) (r78 hR (jV z.1 k m) (by omega)) ?_
      refine aX_aload_n dX10_takeMove_45 rfl ?_
      refine aX_get dX10_takeMove_46 lfX10_91 s8 (f8_7 hR) ?_
      refine aX_get dX10_takeMove_49 lfX10_241 s77 (f77_1 hR) ?_
      refine aX_bipush (v := nI 20) dX10_takeMove_52 (by decide) ?_
      refine nAald (r := 115 + 2 * 20) dX10_takeMove_54 s78 (by decide) (by first | omega | exact Nat.lt_of_le_of_lt (Nat.mod_le _ _) (by omega)) (by decide) (r78 hR 20 (by omega)) ?_
      refine cV (As := [.ref (115 + 2 * (jV z.1 k m)), .ref (115 + 2 * 20)]) (st := []) dX10_takeMove_55 kX10_takeMove_245 s28 aEok0 rfl rfl (Nat.le_of_ble_eq_true rfl) (c_take hR (wVal hR _ (by omega)) (wVal hR 20 (by omega)) (by omega) (by omega) (p3 _ (Or.inl hvl)) (p3 20 (Or.inr (Or.inl rfl)))) (fun ans' h' hq9 => ?_)
      obtain ⟨rfl, I2, rfl, w1, w2, kf⟩ := hq9
      refine ⟨rfl, ?_⟩
      refine aX_iconst (v := nI 0) dX10_takeMove_58 (by decide) ?_
      exact rI dX10_takeMove_59 rfl (Or.inr (Or.inr ⟨c1, c2, rfl, I2, rfl, by simp only [nI_clamp (show k < 2 ^ 31 by omega), nI_clamp (show m < 2 ^ 31 by omega)]; exact w1, by rw [show decide (zV z.1 z.2.1 z.2.2.1 20 < 0) = false by simp; omega] at w2; exact w2, kf⟩))
    · refine aX_bipush (v := (-2)) dX10_takeMove_21 (by decide) ?_
      exact rI dX10_takeMove_23 rfl (Or.inr (Or.inl ⟨c1, c2, rfl, rfl⟩))
  · refine aX_iconst (v := (-1)) dX10_takeMove_12 (by decide) ?_
    exact rI dX10_takeMove_13 rfl (Or.inl ⟨c1, rfl, rfl⟩)
set_option maxHeartbeats 1000000 in
theorem c10_move {I : Nat → Nat → Int32} {L : Nat → Nat → Int64} {R : Nat → Nat → Option Nat} (hR : aRf R) {z : jZ} (hz : clRep I z) {x y : Int32} : aM mX10_move [.ref 8, .int x, .int y] (sh0, I, L, R) (fun ans h' => ans = some (.int (oMove z x y).1) ∧ ∃ I' L', h' = (sh0, I', L', R) ∧ clRep I' (oMove z x y).2 ∧ clK I I' ∧ clKL L L') := by
  obtain ⟨hc, hr, hg, hw, h10, h11, hpc, hcz, hpz, htx⟩ := id hz
  have hn := hc.2.1.1
  have hSl := jS_len z.1
  refine aM_of plX10_move (Nat.le_of_ble_eq_true rfl) ?_
  refine aX_aload_n dX10_move_0 rfl ?_
  refine aX_iload_n dX10_move_1 rfl ?_
  refine aX_iload_n dX10_move_2 rfl ?_
  refine cV (As := [.int (x), .int (y)]) (st := []) dX10_move_3 kX10_move_227 s8 aEok0 rfl rfl (Nat.le_of_ble_eq_true rfl) (c_takeMove hR hz) (fun ans' h' hq9 => ?_)
  rcases hq9 with ⟨t1, rfl, rfl⟩ | ⟨t1, t2, rfl, rfl⟩ | ⟨t1, t2, rfl, I2, rfl, w1, w2, kf⟩
  · refine ⟨rfl, ?_⟩
    refine aX_istore_n (lv' := [(0, .ref 8), (1, .int (x)), (2, .int (y)), (3, .int ((-1)))]) dX10_move_6 (by decide) rfl ?_
    refine aX_iload_n dX10_move_7 rfl ?_
    refine aX_if_eq (tgt := 15) dX10_move_8 (by decide) (fun c1 => ?_) (fun c1 => ?_)
    · exact absurd c1 (by decide)
    · refine aX_iload_n dX10_move_11 rfl ?_
      refine aX_goto (tgt := 26) dX10_move_12 (by decide) ?_
      exact rI dX10_move_26 rfl (by rw [show oMove z x y = (-1, z) by unfold oMove; rw [if_neg (by simp [t1])]]; exact ⟨rfl, I, L, rfl, hz, fun _ _ _ => rfl, fun _ _ _ => rfl⟩)
  · refine ⟨rfl, ?_⟩
    refine aX_istore_n (lv' := [(0, .ref 8), (1, .int (x)), (2, .int (y)), (3, .int ((-2)))]) dX10_move_6 (by decide) rfl ?_
    refine aX_iload_n dX10_move_7 rfl ?_
    refine aX_if_eq (tgt := 15) dX10_move_8 (by decide) (fun c2 => ?_) (fun c2 => ?_)
    · exact absurd c2 (by decide)
    · refine aX_iload_n dX10_move_11 rfl ?_
      refine aX_goto (tgt := 26) dX10_move_12 (by decide) ?_
      exact rI dX10_move_26 rfl (by rw [show oMove z x y = (-2, z) by unfold oMove; rw [if_pos t1, if_neg (by simp [t2])]]; exact ⟨rfl, I, L, rfl, hz, fun _ _ _ => rfl, fun _ _ _ => rfl⟩)
  · refine ⟨rfl, ?_⟩
    obtain ⟨p1, p2, p3⟩ := hpz t2
    obtain ⟨k, m, hk, hm, rfl, rfl, hon⟩ := jPart_t2 hn t1
    have hvl := jV_lt hk hm hon
    simp only [nI_clamp (show k < 2 ^ 31 by omega), nI_clamp (show m < 2 ^ 31 by omega)] at w1
    have hD0 : 0 < zV z.1 z.2.1 z.2.2.1 20 := by rw [zV_20 p1]; exact zD_pos hr.1 hg hw.1
    have hDl : zV z.1 z.2.1 z.2.2.1 20 < 2 ^ 264 := by rw [zV_20 p1]; exact zD_lt hc.2.2.1 hr.1 hg hw.1 p1
    have hNb := zV_b hc.2.2.1 hr.1 hg hw.1 p1 (jV z.1 k m)
    have hBB := pow_jBB
    have hkm := (hc.2.1.2 m hm).1
    have hc2 := cRep_of (fun q j _ _ _ => kf q j (by omega)) hc
    refine aX_istore_n (lv' := [(0, .ref 8), (1, .int (nI (k))), (2, .int (nI (m))), (3, .int (nI (0)))]) dX10_move_6 (by decide) rfl ?_
    refine aX_iload_n dX10_move_7 rfl ?_
    refine nIf_eq (tgt := 15) dX10_move_8 (by decide) (by first | omega | exact Nat.lt_of_le_of_lt (Nat.mod_le _ _) (by omega)) (fun c3 => ?_) (fun c3 => ?_)
    · refine aX_aload_n dX10_move_15 rfl ?_
      refine aX_get dX10_move_16 lfX10_37 s8 (f8_9 hR) ?_
      refine aX_aload_n dX10_move_19 rfl ?_
      refine aX_get dX10_move_20 lfX10_30 s8 (f8_8 hR) ?_
      refine cV (As := [.ref 28]) (st := []) dX10_move_23 kX10_move_237 s37 aEok0 rfl rfl (Nat.le_of_ble_eq_true rfl) (c_write hR (X := (zV z.1 z.2.1 z.2.2.1 (jV z.1 k m)).natAbs) (Y := (zV z.1 z.2.1 z.2.2.1 20).natAbs) w1 w2 (by omega) (by omega) (by omega)) (fun ans' h' hq9 => ?_)
      obtain ⟨l, I5, rfl, rfl, hlx, hlt, hk5⟩ := hq9
      refine ⟨rfl, ?_⟩
      exact rI dX10_move_26 rfl (by
            have htx5 : txOf (zV z.1 z.2.1 z.2.2.1 (jV z.1 k m)) (zV z.1 z.2.1 z.2.2.1 20) = l := txOf_eq hlx
            have hkk : ∀ q j, (q < 29 ∨ 38 < q) → I5 q j = I q j := fun q j g => (hk5 q j g).trans (kf q j (by omega))
            rw [show oMove z (nI k) (nI m) = oTxt z (zV z.1 z.2.1 z.2.2.1 (jV z.1 k m)) (zV z.1 z.2.1 z.2.2.1 20) by unfold oMove; rw [if_pos t1, if_pos t2]; simp only [nI_clamp (show k < 2 ^ 31 by omega), nI_clamp (show m < 2 ^ 31 by omega)]]
            unfold oTxt
            rw [htx5]
            obtain ⟨y1, y2, y3, y4, y5, y6, y7, y8, y9, y10⟩ := clRep_same (I' := fun q j => if q = 37 ∨ q = 38 then I q j else I5 q j) (fun q j g => by
              by_cases e : q = 37 ∨ q = 38
              · show (if q = 37 ∨ q = 38 then I q j else I5 q j) = I q j; rw [if_pos e]
              · show (if q = 37 ∨ q = 38 then I q j else I5 q j) = I q j; rw [if_neg e]; exact hkk q j (by omega)) hz
            exact ⟨rfl, I5, L, rfl, ⟨cRep_of (fun q j _ _ _ => hkk q j (by omega)) hc, rRep_of (fun q j _ _ => hkk q j (by omega)) hr, hg, wRep_of (fun j => hkk 9 j (by omega)) hw, (hkk 8 10 (by omega)).trans h10, (hkk 8 11 (by omega)).trans h11, hpc, fun g => by
              obtain ⟨b1, b2, b3⟩ := hcz g
              exact ⟨b1, fun k hk => ⟨(hkk 42 k (by omega)).trans (b2 k hk).1, (b2 k hk).2⟩, fun k hk => ⟨(hkk 51 k (by omega)).trans (b3 k hk).1, fun p hp => (hkk 50 _ (by omega)).trans ((b3 k hk).2.1 p hp), (hkk 52 k (by omega)).trans (b3 k hk).2.2⟩⟩, fun g => by
              obtain ⟨b1, b2, b3⟩ := hpz g
              exact ⟨b1, (hkk 53 5 (by omega)).trans b2, fun a ha => ⟨fun i hi => (hkk _ i (by omega)).trans ((b3 a ha).1 i hi), (hkk _ 1 (by omega)).trans (b3 a ha).2⟩⟩, hlt⟩, fun q j g => hkk q j (by omega), fun _ _ _ => rfl⟩)
    · exact absurd c3 (by decide)
set_option maxHeartbeats 1000000 in
theorem c10_place {I : Nat → Nat → Int32} {L : Nat → Nat → Int64} {R : Nat → Nat → Option Nat} (hR : aRf R) {z : jZ} (hz : clRep I z) {x y : Int32} : aM mX10_place [.ref 8, .int x, .int y] (sh0, I, L, R) (fun ans h' => ans = some (.int (oPlace z x y).1) ∧ ∃ I' L', h' = (sh0, I', L', R) ∧ clRep I' (oPlace z x y).2 ∧ clK I I' ∧ clKL L L') := by
  obtain ⟨hc, hr, hg, hw, h10, h11, hpc, hcz, hpz, htx⟩ := id hz
  have hn := hc.2.1.1
  have hSl := jS_len z.1
  refine aM_of plX10_place (Nat.le_of_ble_eq_true rfl) ?_
  refine aX_aload_n dX10_place_0 rfl ?_
  refine aX_iload_n dX10_place_1 rfl ?_
  refine aX_iload_n dX10_place_2 rfl ?_
  refine cV (As := [.int (x), .int (y)]) (st := []) dX10_place_3 kX10_place_227 s8 aEok0 rfl rfl (Nat.le_of_ble_eq_true rfl) (c_takeMove hR hz) (fun ans' h' hq9 => ?_)
  rcases hq9 with ⟨t1, rfl, rfl⟩ | ⟨t1, t2, rfl, rfl⟩ | ⟨t1, t2, rfl, I2, rfl, w1, w2, kf⟩
  · refine ⟨rfl, ?_⟩
    refine aX_istore_n (lv' := [(0, .ref 8), (1, .int (x)), (2, .int (y)), (3, .int ((-1)))]) dX10_place_6 (by decide) rfl ?_
    refine aX_iload_n dX10_place_7 rfl ?_
    refine aX_if_eq (tgt := 13) dX10_place_8 (by decide) (fun c1 => ?_) (fun c1 => ?_)
    · exact absurd c1 (by decide)
    · refine aX_iload_n dX10_place_11 rfl ?_
      exact rI dX10_place_12 rfl (by rw [show oPlace z x y = (-1, z) by unfold oPlace; rw [if_neg (by simp [t1])]]; exact ⟨rfl, I, L, rfl, hz, fun _ _ _ => rfl, fun _ _ _ => rfl⟩)
  · refine ⟨rfl, ?_⟩
    refine aX_istore_n (lv' := [(0, .ref 8), (1, .int (x)), (2, .int (y)), (3, .int ((-2)))]) dX10_place_6 (by decide) rfl ?_
    refine aX_iload_n dX10_place_7 rfl ?_
    refine aX_if_eq (tgt := 13) dX10_place_8 (by decide) (fun c2 => ?_) (fun c2 => ?_)
    · exact absurd c2 (by decide)
    · refine aX_iload_n dX10_place_11 rfl ?_
      exact rI dX10_place_12 rfl (by rw [show oPlace z x y = (-2, z) by unfold oPlace; rw [if_pos t1, if_neg (by simp [t2])]]; exact ⟨rfl, I, L, rfl, hz, fun _ _ _ => rfl, fun _ _ _ => rfl⟩)
  · refine ⟨rfl, ?_⟩
    obtain ⟨p1, p2, p3⟩ := hpz t2
    obtain ⟨k, m, hk, hm, rfl, rfl, hon⟩ := jPart_t2 hn t1
    have hvl := jV_lt hk hm hon
    simp only [nI_clamp (show k < 2 ^ 31 by omega), nI_clamp (show m < 2 ^ 31 by omega)] at w1
    have hD0 : 0 < zV z.1 z.2.1 z.2.2.1 20 := by rw [zV_20 p1]; exact zD_pos hr.1 hg hw.1
    have hDl : zV z.1 z.2.1 z.2.2.1 20 < 2 ^ 264 := by rw [zV_20 p1]; exact zD_lt hc.2.2.1 hr.1 hg hw.1 p1
    have hNb := zV_b hc.2.2.1 hr.1 hg hw.1 p1 (jV z.1 k m)
    have hBB := pow_jBB
    have hkm := (hc.2.1.2 m hm).1
    have hc2 := cRep_of (fun q j _ _ _ => kf q j (by omega)) hc
    refine aX_istore_n (lv' := [(0, .ref 8), (1, .int (nI (k))), (2, .int (nI (m))), (3, .int (nI (0)))]) dX10_place_6 (by decide) rfl ?_
    refine aX_iload_n dX10_place_7 rfl ?_
    refine nIf_eq (tgt := 13) dX10_place_8 (by decide) (by first | omega | exact Nat.lt_of_le_of_lt (Nat.mod_le _ _) (by omega)) (fun c3 => ?_) (fun c3 => ?_)
    · refine aX_aload_n dX10_place_13 rfl ?_
      refine aX_get dX10_place_14 lfX10_30 s8 (f8_8 hR) ?_
      refine aX_aload_n dX10_place_17 rfl ?_
      refine aX_get dX10_place_18 lfX10_23 s8 (f8_2 hR) ?_
      refine aX_iload_n dX10_place_21 rfl ?_
      refine cVp (As := [.int (nI (m))]) (st := [.ref 28]) (v := .int (nI (10000 * z.1.2.1 m))) dX10_place_22 kX10_place_230 s16 aEok0 rfl rfl (Nat.le_of_ble_eq_true rfl) (c_equalOf hR hc2 hm) ?_
      have hDn := pow_264 hDl (n := ((10000 * z.1.2.1 m : Nat) : Int)) (by omega) (by omega) hD0
      have hDn0 : 0 ≤ zV z.1 z.2.1 z.2.2.1 20 * ((10000 * z.1.2.1 m : Nat) : Int) := Int.mul_nonneg (by omega) (by omega)
      have hDa : ((zV z.1 z.2.1 z.2.2.1 20).natAbs : Int) = zV z.1 z.2.1 z.2.2.1 20 := by omega
      rw [hDa] at w2
      refine cV (As := [.int (nI (10000 * z.1.2.1 m))]) (st := []) dX10_place_25 kX10_place_233 s28 aEok0 rfl rfl (Nat.le_of_ble_eq_true rfl) (c_addWhole hR w1 w2 (by omega) (by omega) (n := 10000 * z.1.2.1 m) (by omega) (by omega) (fun g => by simp at g; omega)) (fun ans' h' hq9 => ?_)
      obtain ⟨rfl, I4, rfl, w3, w4, kf4⟩ := hq9
      refine ⟨rfl, ?_⟩
      rw [sv_abs] at w3
      rw [← hDa] at w4
      have hTb : ((zV z.1 z.2.1 z.2.2.1 (jV z.1 k m) + zV z.1 z.2.1 z.2.2.1 20 * ((10000 * z.1.2.1 m : Nat) : Int)).natAbs : Int) < jBB 12 := by omega
      refine aX_aload_n dX10_place_28 rfl ?_
      refine aX_get dX10_place_29 lfX10_37 s8 (f8_9 hR) ?_
      refine aX_aload_n dX10_place_32 rfl ?_
      refine aX_get dX10_place_33 lfX10_30 s8 (f8_8 hR) ?_
      refine cV (As := [.ref 28]) (st := []) dX10_place_36 kX10_place_237 s37 aEok0 rfl rfl (Nat.le_of_ble_eq_true rfl) (c_write hR (X := (zV z.1 z.2.1 z.2.2.1 (jV z.1 k m) + zV z.1 z.2.1 z.2.2.1 20 * ((10000 * z.1.2.1 m : Nat) : Int)).natAbs) (Y := (zV z.1 z.2.1 z.2.2.1 20).natAbs) w3 w4 (by omega) (by omega) (by omega)) (fun ans' h' hq9 => ?_)
      obtain ⟨l, I5, rfl, rfl, hlx, hlt, hk5⟩ := hq9
      refine ⟨rfl, ?_⟩
      exact rI dX10_place_39 rfl (by
            have htx5 : txOf (zV z.1 z.2.1 z.2.2.1 (jV z.1 k m) + zV z.1 z.2.1 z.2.2.1 20 * ((10000 * z.1.2.1 m : Nat) : Int)) (zV z.1 z.2.1 z.2.2.1 20) = l := txOf_eq hlx
            have hkk : ∀ q j, (q < 29 ∨ 38 < q) → I5 q j = I q j := fun q j g => (hk5 q j g).trans ((kf4 q j (by omega)).trans (kf q j (by omega)))
            rw [show oPlace z (nI k) (nI m) = oTxt z (zV z.1 z.2.1 z.2.2.1 (jV z.1 k m) + zV z.1 z.2.1 z.2.2.1 20 * ((10000 * z.1.2.1 m : Nat) : Int)) (zV z.1 z.2.1 z.2.2.1 20) by unfold oPlace; rw [if_pos t1, if_pos t2]; simp only [nI_clamp (show k < 2 ^ 31 by omega), nI_clamp (show m < 2 ^ 31 by omega)]]
            unfold oTxt
            rw [htx5]
            obtain ⟨y1, y2, y3, y4, y5, y6, y7, y8, y9, y10⟩ := clRep_same (I' := fun q j => if q = 37 ∨ q = 38 then I q j else I5 q j) (fun q j g => by
              by_cases e : q = 37 ∨ q = 38
              · show (if q = 37 ∨ q = 38 then I q j else I5 q j) = I q j; rw [if_pos e]
              · show (if q = 37 ∨ q = 38 then I q j else I5 q j) = I q j; rw [if_neg e]; exact hkk q j (by omega)) hz
            exact ⟨rfl, I5, L, rfl, ⟨cRep_of (fun q j _ _ _ => hkk q j (by omega)) hc, rRep_of (fun q j _ _ => hkk q j (by omega)) hr, hg, wRep_of (fun j => hkk 9 j (by omega)) hw, (hkk 8 10 (by omega)).trans h10, (hkk 8 11 (by omega)).trans h11, hpc, fun g => by
              obtain ⟨b1, b2, b3⟩ := hcz g
              exact ⟨b1, fun k hk => ⟨(hkk 42 k (by omega)).trans (b2 k hk).1, (b2 k hk).2⟩, fun k hk => ⟨(hkk 51 k (by omega)).trans (b3 k hk).1, fun p hp => (hkk 50 _ (by omega)).trans ((b3 k hk).2.1 p hp), (hkk 52 k (by omega)).trans (b3 k hk).2.2⟩⟩, fun g => by
              obtain ⟨b1, b2, b3⟩ := hpz g
              exact ⟨b1, (hkk 53 5 (by omega)).trans b2, fun a ha => ⟨fun i hi => (hkk _ i (by omega)).trans ((b3 a ha).1 i hi), (hkk _ 1 (by omega)).trans (b3 a ha).2⟩⟩, hlt⟩, fun q j g => hkk q j (by omega), fun _ _ _ => rfl⟩)
    · exact absurd c3 (by decide)
set_option maxHeartbeats 1000000 in
theorem c10_energy {I : Nat → Nat → Int32} {L : Nat → Nat → Int64} {R : Nat → Nat → Option Nat} (hR : aRf R) {z : jZ} (hz : clRep I z) : aM mX10_energy [.ref 8] (sh0, I, L, R) (fun ans h' => ans = some (.int (oEnergy z).1) ∧ ∃ I' L', h' = (sh0, I', L', R) ∧ clRep I' (oEnergy z).2 ∧ clK I I' ∧ clKL L L') := by
  obtain ⟨hc, hr, hg, hw, h10, h11, hpc, hcz, hpz, htx⟩ := id hz
  have hn := hc.2.1.1
  have hSl := jS_len z.1
  refine aM_of plX10_energy (Nat.le_of_ble_eq_true rfl) ?_
  refine aX_aload_n dX10_energy_0 rfl ?_
  refine aX_get (v := .int (bI (z.2.2.2.2.1))) dX10_energy_1 lfX10_196 s8 (congrArg Value.int (h11)) ?_
  refine bNe (tgt := 10) dX10_energy_4 (by decide) (fun c1 => ?_) (fun c1 => ?_)
  · obtain ⟨p1, p2, p3⟩ := hpz c1
    have hD0 : 0 < zV z.1 z.2.1 z.2.2.1 20 := by rw [zV_20 p1]; exact zD_pos hr.1 hg hw.1
    have hDl : zV z.1 z.2.1 z.2.2.1 20 < 2 ^ 264 := by rw [zV_20 p1]; exact zD_lt hc.2.2.1 hr.1 hg hw.1 p1
    have hDb := zV_b hc.2.2.1 hr.1 hg hw.1 p1 20
    have hNb := zV_b hc.2.2.1 hr.1 hg hw.1 p1 21
    have hBB := pow_jBB
    refine aX_aload_n dX10_energy_10 rfl ?_
    refine aX_get dX10_energy_11 lfX10_30 s8 (f8_8 hR) ?_
    refine aX_aload_n dX10_energy_14 rfl ?_
    refine aX_get dX10_energy_15 lfX10_91 s8 (f8_7 hR) ?_
    refine aX_get dX10_energy_18 lfX10_241 s77 (f77_1 hR) ?_
    refine aX_bipush (v := nI 21) dX10_energy_21 (by decide) ?_
    refine nAald (r := 157) dX10_energy_23 s78 (by decide) (by first | omega | exact Nat.lt_of_le_of_lt (Nat.mod_le _ _) (by omega)) (by decide) (r78 hR 21 (by omega)) ?_
    refine aX_aload_n dX10_energy_24 rfl ?_
    refine aX_get dX10_energy_25 lfX10_91 s8 (f8_7 hR) ?_
    refine aX_get dX10_energy_28 lfX10_241 s77 (f77_1 hR) ?_
    refine aX_bipush (v := nI 20) dX10_energy_31 (by decide) ?_
    refine nAald (r := 155) dX10_energy_33 s78 (by decide) (by first | omega | exact Nat.lt_of_le_of_lt (Nat.mod_le _ _) (by omega)) (by decide) (r78 hR 20 (by omega)) ?_
    refine cV (As := [.ref 157, .ref 155]) (st := []) dX10_energy_34 kX10_energy_245 s28 aEok0 rfl rfl (Nat.le_of_ble_eq_true rfl) (c_take hR (wVal hR 21 (by omega)) (wVal hR 20 (by omega)) (by omega) (by omega) (p3 21 (Or.inr (Or.inr rfl))) (p3 20 (Or.inr (Or.inl rfl)))) (fun ans' h' hq9 => ?_)
    obtain ⟨rfl, I2, rfl, w1, w2, kf⟩ := hq9
    refine ⟨rfl, ?_⟩
    rw [show decide (zV z.1 z.2.1 z.2.2.1 20 < 0) = false by simp; omega] at w2
    refine aX_aload_n dX10_energy_37 rfl ?_
    refine aX_get dX10_energy_38 lfX10_37 s8 (f8_9 hR) ?_
    refine aX_aload_n dX10_energy_41 rfl ?_
    refine aX_get dX10_energy_42 lfX10_30 s8 (f8_8 hR) ?_
    refine cV (As := [.ref 28]) (st := []) dX10_energy_45 kX10_energy_237 s37 aEok0 rfl rfl (Nat.le_of_ble_eq_true rfl) (c_write hR (X := (zV z.1 z.2.1 z.2.2.1 21).natAbs) (Y := (zV z.1 z.2.1 z.2.2.1 20).natAbs) w1 w2 (by omega) (by omega) (by omega)) (fun ans' h' hq9 => ?_)
    obtain ⟨l, I5, rfl, rfl, hlx, hlt, hk5⟩ := hq9
    refine ⟨rfl, ?_⟩
    exact rI dX10_energy_48 rfl (by
          have htx5 : txOf (zV z.1 z.2.1 z.2.2.1 21) (zV z.1 z.2.1 z.2.2.1 20) = l := txOf_eq hlx
          have hkk : ∀ q j, (q < 29 ∨ 38 < q) → I5 q j = I q j := fun q j g => (hk5 q j g).trans (kf q j (by omega))
          rw [show oEnergy z = oTxt z (zV z.1 z.2.1 z.2.2.1 21) (zV z.1 z.2.1 z.2.2.1 20) by unfold oEnergy; rw [if_pos c1]]
          unfold oTxt
          rw [htx5]
          obtain ⟨y1, y2, y3, y4, y5, y6, y7, y8, y9, y10⟩ := clRep_same (I' := fun q j => if q = 37 ∨ q = 38 then I q j else I5 q j) (fun q j g => by
            by_cases e : q = 37 ∨ q = 38
            · show (if q = 37 ∨ q = 38 then I q j else I5 q j) = I q j; rw [if_pos e]
            · show (if q = 37 ∨ q = 38 then I q j else I5 q j) = I q j; rw [if_neg e]; exact hkk q j (by omega)) hz
          exact ⟨rfl, I5, L, rfl, ⟨cRep_of (fun q j _ _ _ => hkk q j (by omega)) hc, rRep_of (fun q j _ _ => hkk q j (by omega)) hr, hg, wRep_of (fun j => hkk 9 j (by omega)) hw, (hkk 8 10 (by omega)).trans h10, (hkk 8 11 (by omega)).trans h11, hpc, fun g => by
            obtain ⟨b1, b2, b3⟩ := hcz g
            exact ⟨b1, fun k hk => ⟨(hkk 42 k (by omega)).trans (b2 k hk).1, (b2 k hk).2⟩, fun k hk => ⟨(hkk 51 k (by omega)).trans (b3 k hk).1, fun p hp => (hkk 50 _ (by omega)).trans ((b3 k hk).2.1 p hp), (hkk 52 k (by omega)).trans (b3 k hk).2.2⟩⟩, fun g => by
            obtain ⟨b1, b2, b3⟩ := hpz g
            exact ⟨b1, (hkk 53 5 (by omega)).trans b2, fun a ha => ⟨fun i hi => (hkk _ i (by omega)).trans ((b3 a ha).1 i hi), (hkk _ 1 (by omega)).trans (b3 a ha).2⟩⟩, hlt⟩, fun q j g => hkk q j (by omega), fun _ _ _ => rfl⟩)
  · refine aX_bipush (v := (-2)) dX10_energy_7 (by decide) ?_
    exact rI dX10_energy_9 rfl (by rw [show oEnergy z = (-2, z) by unfold oEnergy; rw [if_neg (by simp [c1])]]; exact ⟨rfl, I, L, rfl, hz, fun _ _ _ => rfl, fun _ _ _ => rfl⟩)
theorem near_q {N D : Int} (hD : 0 < D) (hN : (N.natAbs : Int) ≤ 2026943200 * D) : (N * 2 + D).natAbs / (D.natAbs * 2) < 2147483648 := by
  refine (Nat.div_lt_iff_lt_mul (by omega)).mpr ?_
  have : (((N * 2 + D).natAbs : Nat) : Int) < ((2147483648 * (D.natAbs * 2) : Nat) : Int) := by rw [Int.natCast_mul, Int.natCast_mul]; omega
  exact Int.ofNat_lt.mp this
theorem sv2 (N : Int) : sv (decide (N < 0)) ((N.natAbs : Int) * 2) = N * 2 := by
  unfold sv
  by_cases e : N < 0
  · rw [if_pos (by simp [e])]; omega
  · rw [if_neg (by simp [e])]; omega
set_option maxHeartbeats 1000000 in
theorem c10_near {I : Nat → Nat → Int32} {L : Nat → Nat → Int64} {R : Nat → Nat → Option Nat} (hR : aRf R) {z : jZ} (hz : clRep I z) {x y : Int32} : aM mX10_near [.ref 8, .int x, .int y] (sh0, I, L, R) (fun ans h' => ans = some (.int (oNear z x y)) ∧ ∃ I' L', h' = (sh0, I', L', R) ∧ clRep I' z ∧ clK I I' ∧ clKL L L') := by
  obtain ⟨hc, hr, hg, hw, h10, h11, hpc, hcz, hpz, htx⟩ := id hz
  have hn := hc.2.1.1
  have hSl := jS_len z.1
  refine aM_of plX10_near (Nat.le_of_ble_eq_true rfl) ?_
  refine aX_aload_n dX10_near_0 rfl ?_
  refine aX_iload_n dX10_near_1 rfl ?_
  refine aX_iload_n dX10_near_2 rfl ?_
  refine cV (As := [.int (x), .int (y)]) (st := []) dX10_near_3 kX10_near_227 s8 aEok0 rfl rfl (Nat.le_of_ble_eq_true rfl) (c_takeMove hR hz) (fun ans' h' hq9 => ?_)
  rcases hq9 with ⟨t1, rfl, rfl⟩ | ⟨t1, t2, rfl, rfl⟩ | ⟨t1, t2, rfl, I2, rfl, w1, w2, kf⟩
  · refine ⟨rfl, ?_⟩
    refine aX_istore_n (lv' := [(0, .ref 8), (1, .int (x)), (2, .int (y)), (3, .int ((-1)))]) dX10_near_6 (by decide) rfl ?_
    refine aX_iload_n dX10_near_7 rfl ?_
    refine aX_if_eq (tgt := 15) dX10_near_8 (by decide) (fun c1 => ?_) (fun c1 => ?_)
    · exact absurd c1 (by decide)
    · refine aX_iload_n dX10_near_11 rfl ?_
      refine aX_goto (tgt := 31) dX10_near_12 (by decide) ?_
      exact rI dX10_near_31 rfl (⟨by rw [show oNear z x y = -1 by unfold oNear; rw [if_neg (by simp [t1])]], I, L, rfl, hz, fun _ _ _ => rfl, fun _ _ _ => rfl⟩)
  · refine ⟨rfl, ?_⟩
    refine aX_istore_n (lv' := [(0, .ref 8), (1, .int (x)), (2, .int (y)), (3, .int ((-2)))]) dX10_near_6 (by decide) rfl ?_
    refine aX_iload_n dX10_near_7 rfl ?_
    refine aX_if_eq (tgt := 15) dX10_near_8 (by decide) (fun c2 => ?_) (fun c2 => ?_)
    · exact absurd c2 (by decide)
    · refine aX_iload_n dX10_near_11 rfl ?_
      refine aX_goto (tgt := 31) dX10_near_12 (by decide) ?_
      exact rI dX10_near_31 rfl (⟨by rw [show oNear z x y = -2 by unfold oNear; rw [if_pos t1, if_neg (by simp [t2])]], I, L, rfl, hz, fun _ _ _ => rfl, fun _ _ _ => rfl⟩)
  · refine ⟨rfl, ?_⟩
    obtain ⟨p1, p2, p3⟩ := hpz t2
    obtain ⟨k, m, hk, hm, rfl, rfl, hon⟩ := jPart_t2 hn t1
    have hvl := jV_lt hk hm hon
    simp only [nI_clamp (show k < 2 ^ 31 by omega), nI_clamp (show m < 2 ^ 31 by omega)] at w1
    have hD0 : 0 < zV z.1 z.2.1 z.2.2.1 20 := by rw [zV_20 p1]; exact zD_pos hr.1 hg hw.1
    have hDl : zV z.1 z.2.1 z.2.2.1 20 < 2 ^ 264 := by rw [zV_20 p1]; exact zD_lt hc.2.2.1 hr.1 hg hw.1 p1
    have hNb := zV_b hc.2.2.1 hr.1 hg hw.1 p1 (jV z.1 k m)
    have hBB := pow_jBB
    have hkm := (hc.2.1.2 m hm).1
    have hc2 := cRep_of (fun q j _ _ _ => kf q j (by omega)) hc
    refine aX_istore_n (lv' := [(0, .ref 8), (1, .int (nI (k))), (2, .int (nI (m))), (3, .int (nI (0)))]) dX10_near_6 (by decide) rfl ?_
    refine aX_iload_n dX10_near_7 rfl ?_
    refine nIf_eq (tgt := 15) dX10_near_8 (by decide) (by first | omega | exact Nat.lt_of_le_of_lt (Nat.mod_le _ _) (by omega)) (fun c3 => ?_) (fun c3 => ?_)
    · refine aX_aload_n dX10_near_15 rfl ?_
      refine aX_get dX10_near_16 lfX10_23 s8 (f8_2 hR) ?_
      refine aX_iload_n dX10_near_19 rfl ?_
      refine cVp (As := [.int (nI (m))]) (st := []) (v := .int (nI (10000 * z.1.2.1 m))) dX10_near_20 kX10_near_230 s16 aEok0 rfl rfl (Nat.le_of_ble_eq_true rfl) (c_equalOf hR hc2 hm) ?_
      refine aX_aload_n dX10_near_23 rfl ?_
      refine aX_get dX10_near_24 lfX10_30 s8 (f8_8 hR) ?_
      have hNs : ((zV z.1 z.2.1 z.2.2.1 (jV z.1 k m)).natAbs : Int) ≤ 2026943200 * zV z.1 z.2.1 z.2.2.1 20 := by rw [zV_20 p1, zV_N hvl]; exact zN_small hc.2.2.1 hr.1 hg hw.1 p1 hvl
      have hDn := pow_264 hDl (n := 4294967296) (by omega) (by omega) hD0
      have hDb := zV_b hc.2.2.1 hr.1 hg hw.1 p1 20
      have h3b : (2 : Int) ^ 328 * 2 + 2 ^ 328 < jBB 12 := by rw [jBB_12]; decide +kernel
      refine cV (As := []) (st := [.int (nI (10000 * z.1.2.1 m))]) dX10_near_27 kX10_near_249 s28 aEok0 rfl rfl (Nat.le_of_ble_eq_true rfl) (c_rounded hR (X := (zV z.1 z.2.1 z.2.2.1 (jV z.1 k m)).natAbs) (Y := (zV z.1 z.2.1 z.2.2.1 20).natAbs) w1 w2 (by omega) (fun g => by simp at g; omega) (by omega) (by omega) (by rw [sv2, show ((zV z.1 z.2.1 z.2.2.1 20).natAbs : Int) = zV z.1 z.2.1 z.2.2.1 20 by omega]; exact near_q hD0 hNs)) (fun ans' h' hq9 => ?_)
      obtain ⟨rfl, I4, rfl, kf4⟩ := hq9
      refine ⟨rfl, ?_⟩
      rw [sv2, show ((zV z.1 z.2.1 z.2.2.1 20).natAbs : Int) = zV z.1 z.2.1 z.2.2.1 20 by omega]
      refine aX_iadd dX10_near_30 ?_
      exact rI dX10_near_31 rfl (⟨by rw [show oNear z (nI k) (nI m) = nI (10000 * z.1.2.1 m) + iZ ((zV z.1 z.2.1 z.2.2.1 (jV z.1 k m) * 2 + zV z.1 z.2.1 z.2.2.1 20) / (zV z.1 z.2.1 z.2.2.1 20 * 2)) by unfold oNear; rw [if_pos t1, if_pos t2]; simp only [nI_clamp (show k < 2 ^ 31 by omega), nI_clamp (show m < 2 ^ 31 by omega)]], I4, L, rfl, clRep_same (fun q j g => (kf4 q j (by omega)).trans (kf q j (by omega))) hz, fun q j g => (kf4 q j (by omega)).trans (kf q j (by omega)), fun _ _ _ => rfl⟩)
    · exact absurd c3 (by decide)
