theorem rd_pos {S : Int} {Y : Nat} (hY : 0 < Y * 2) (h : ¬ S < 0) : S / ((Y : Int) * 2) = ((S.natAbs / (Y * 2) : Nat) : Int) := by
  rw [Int.natCast_ediv, show ((S.natAbs : Nat) : Int) = S by omega, show ((Y * 2 : Nat) : Int) = (Y : Int) * 2 by omega]
theorem rd_neg1 {S : Int} {Y : Nat} (hY : 0 < Y * 2) (h : S < 0) (e : Y * 2 * (S.natAbs / (Y * 2)) = S.natAbs) : S / ((Y : Int) * 2) = -((S.natAbs / (Y * 2) : Nat) : Int) := by
  obtain ⟨q, hq⟩ : ∃ q, q = S.natAbs / (Y * 2) := ⟨_, rfl⟩
  rw [← hq] at e ⊢
  have e2 : S = ((Y : Int) * 2) * (-(q : Int)) := by
    have : ((Y * 2 * q : Nat) : Int) = -S := by omega
    push_cast at this
    rw [Int.mul_neg]
    omega
  rw [e2, Int.mul_ediv_cancel_left _ (by omega)]
theorem rd_neg2 {S : Int} {Y : Nat} (hY : 0 < Y * 2) (h : S < 0) (e : Y * 2 * (S.natAbs / (Y * 2)) ≠ S.natAbs) : S / ((Y : Int) * 2) = -((S.natAbs / (Y * 2) : Nat) : Int) - ((1 : Nat) : Int) := by
  have h1 := Nat.div_add_mod S.natAbs (Y * 2)
  have h2 := Nat.mod_lt S.natAbs hY
  obtain ⟨q, hq⟩ : ∃ q, q = S.natAbs / (Y * 2) := ⟨_, rfl⟩
  obtain ⟨m, hm⟩ : ∃ m, m = S.natAbs % (Y * 2) := ⟨_, rfl⟩
  rw [← hq] at e h1 ⊢
  rw [← hm] at h1 h2
  have e2 : S = ((Y : Int) * 2 - m) + ((Y : Int) * 2) * (-(q : Int) - 1) := by
    have h3 : ((Y * 2 * q : Nat) : Int) + m = -S := by omega
    push_cast at h3
    rw [Int.mul_sub, Int.mul_neg, Int.mul_one]
    omega
  rw [e2, Int.add_mul_ediv_left _ _ (by omega), Int.ediv_eq_zero_of_lt (by omega) (by omega)]
  omega
set_option maxHeartbeats 1000000 in
theorem c_rounded {I : Nat → Nat → Int32} {L : Nat → Nat → Int64} {R : Nat → Nat → Option Nat} (hR : aRf R) {X Y : Nat} {n1 : Bool} (h29 : wR I 29 (X : Int) n1) (h31 : wR I 31 (Y : Int) false) (hY0 : 0 < Y) (hp : n1 = true → 0 < (X : Int)) (hb : (X : Int) * 2 + Y < jBB 12) (hYb : (Y : Int) * 2 * 2147483648 < jBB 12) (hq31 : (sv n1 ((X : Int) * 2) + Y).natAbs / (Y * 2) < 2147483648) : aM mX2_rounded [.ref 28] (sh0, I, L, R) (fun ans h' => ans = some (.int (iZ ((sv n1 ((X : Int) * 2) + Y) / ((Y : Int) * 2)))) ∧ ∃ I', h' = (sh0, I', L, R) ∧ fK I I') := by
  have hf0 : fK I I := fK_refl
  have hAb : (((sv n1 ((X : Int) * 2) + Y).natAbs : Nat) : Int) < jBB 12 := by cases n1 <;> simp only [svT, svF] <;> omega
  refine aM_of plX2_rounded (Nat.le_of_ble_eq_true rfl) ?_
  refine aX_aload_n dX2_rounded_0 rfl ?_
  refine aX_get dX2_rounded_1 lfX2_21 s28 (f28_2 hR) ?_
  refine aX_aload_n dX2_rounded_4 rfl ?_
  refine aX_get dX2_rounded_5 lfX2_18 s28 (f28_1 hR) ?_
  refine cV (As := [.ref 31]) (st := []) dX2_rounded_8 kX2_rounded_27 s33 aEok0 rfl rfl (Nat.le_of_ble_eq_true rfl) (c_copy (w33 hR) (w31 hR) (by decide) h31) (fun r h' hq => ?_)
  obtain ⟨rfl, J1, rfl, hd1, hk1⟩ := hq
  refine ⟨rfl, ?_⟩
  have h33_1 : wR J1 33 ((Y : Int)) false := hd1
  have h29_1 : wR J1 29 ((X : Int)) n1 := wR_oK hk1 (w29 hR) (w33 hR) (by decide) h29
  have h31_1 : wR J1 31 ((Y : Int)) false := wR_oK hk1 (w31 hR) (w33 hR) (by decide) h31
  have hf1 : fK I J1 := fK_o hf0 hk1 (by decide) (by decide)
  refine aX_aload_n dX2_rounded_11 rfl ?_
  refine aX_get dX2_rounded_12 lfX2_12 s28 (f28_0 hR) ?_
  refine aX_iconst (v := nI 2) dX2_rounded_15 (by decide) ?_
  refine aX_iconst (v := nI 0) dX2_rounded_16 (by decide) ?_
  refine cV (As := [.int (nI (2)), .int (nI (0))]) (st := []) dX2_rounded_17 kX2_rounded_31 s29 aEok0 rfl rfl (Nat.le_of_ble_eq_true rfl) (c_timesPlus (w29 hR) h29_1.1 (by decide) (by decide)) (fun r h' hq => ?_)
  obtain ⟨rfl, J2, rfl, hd2, hk2⟩ := hq
  refine ⟨rfl, ?_⟩
  rw [show ((X : Nat) : Int) * ((2 : Nat) : Int) + ((0 : Nat) : Int) = (X : Int) * 2 by omega] at hd2
  have h29_2 : wR J2 29 ((X : Int) * 2) n1 := wR_new hk2 h29_1 hd2
  have h31_2 : wR J2 31 ((Y : Int)) false := wR_rK hk2 (w31 hR) (w29 hR) (by decide) h31_1
  have h33_2 : wR J2 33 ((Y : Int)) false := wR_rK hk2 (w33 hR) (w29 hR) (by decide) h33_1
  have hf2 : fK I J2 := fK_o hf1 (rK_oK hk2) (by decide) (by decide)
  refine aX_aload_n dX2_rounded_20 rfl ?_
  refine aX_get dX2_rounded_21 lfX2_12 s28 (f28_0 hR) ?_
  refine aX_aload_n dX2_rounded_24 rfl ?_
  refine aX_get dX2_rounded_25 lfX2_21 s28 (f28_2 hR) ?_
  refine cV (As := [.ref 33]) (st := []) dX2_rounded_28 kX2_rounded_35 s29 aEok0 rfl rfl (Nat.le_of_ble_eq_true rfl) (c_add (w29 hR) (w33 hR) (by decide) h29_2 h33_2 (by omega) (by omega) hb (fun z => by have := hp z; omega) (fun z => by cases z)) (fun r h' hq => ?_)
  obtain ⟨rfl, J3, rfl, hd3, hk3⟩ := hq
  refine ⟨rfl, ?_⟩
  have h29_3 : wR J3 29 (((sv n1 ((X : Int) * 2) + Y).natAbs : Int)) ((decide ((sv n1 ((X : Int) * 2) + Y) < 0))) := hd3
  have h31_3 : wR J3 31 ((Y : Int)) false := wR_oK hk3 (w31 hR) (w29 hR) (by decide) h31_2
  have h33_3 : wR J3 33 ((Y : Int)) false := wR_oK hk3 (w33 hR) (w29 hR) (by decide) h33_2
  have hf3 : fK I J3 := fK_o hf2 hk3 (by decide) (by decide)
  refine aX_aload_n dX2_rounded_31 rfl ?_
  refine aX_get dX2_rounded_32 lfX2_18 s28 (f28_1 hR) ?_
  refine aX_iconst (v := nI 2) dX2_rounded_35 (by decide) ?_
  refine aX_iconst (v := nI 0) dX2_rounded_36 (by decide) ?_
  refine cV (As := [.int (nI (2)), .int (nI (0))]) (st := []) dX2_rounded_37 kX2_rounded_31 s31 aEok0 rfl rfl (Nat.le_of_ble_eq_true rfl) (c_timesPlus (w31 hR) h31_3.1 (by decide) (by decide)) (fun r h' hq => ?_)
  obtain ⟨rfl, J4, rfl, hd4, hk4⟩ := hq
  refine ⟨rfl, ?_⟩
  rw [show ((Y : Nat) : Int) * ((2 : Nat) : Int) + ((0 : Nat) : Int) = ((Y * 2 : Nat) : Int) by omega] at hd4
  have h31_4 : wR J4 31 (((Y * 2 : Nat) : Int)) false := wR_new hk4 h31_3 hd4
  have h29_4 : wR J4 29 (((sv n1 ((X : Int) * 2) + Y).natAbs : Int)) ((decide ((sv n1 ((X : Int) * 2) + Y) < 0))) := wR_rK hk4 (w29 hR) (w31 hR) (by decide) h29_3
  have h33_4 : wR J4 33 ((Y : Int)) false := wR_rK hk4 (w33 hR) (w31 hR) (by decide) h33_3
  have hf4 : fK I J4 := fK_o hf3 (rK_oK hk4) (by decide) (by decide)
  refine aX_aload_n dX2_rounded_40 rfl ?_
  refine cV (As := []) (st := []) dX2_rounded_41 kX2_rounded_72 s28 aEok0 rfl rfl (Nat.le_of_ble_eq_true rfl) (c_quot hR (X := (sv n1 ((X : Int) * 2) + Y).natAbs) (Y := Y * 2) (by omega) hAb (by omega) hq31 h29_4 h31_4) (fun r h' hq => ?_)
  obtain ⟨rfl, J5, rfl, h29_5, h31_5, hk5⟩ := hq
  refine ⟨rfl, ?_⟩
  have hf5 := fK_trans hf4 hk5
  refine aX_istore_n (lv' := [(0, .ref 28), (1, .int (nI ((sv n1 ((X : Int) * 2) + Y).natAbs / (Y * 2))))]) dX2_rounded_44 (by decide) rfl ?_
  refine aX_aload_n dX2_rounded_45 rfl ?_
  refine aX_get dX2_rounded_46 lfX2_12 s28 (f28_0 hR) ?_
  refine aX_get (v := .int (bI (decide ((sv n1 ((X : Int) * 2) + Y) < 0)))) dX2_rounded_49 lfX2_75 s29 (congrArg Value.int (h29_5.2)) ?_
  refine bNe (tgt := 57) dX2_rounded_52 (by decide) (fun c1 => ?_) (fun c1 => ?_)
  · have hneg : (sv n1 ((X : Int) * 2) + Y) < 0 := of_decide_eq_true c1
    refine aX_aload_n dX2_rounded_57 rfl ?_
    refine aX_get dX2_rounded_58 lfX2_21 s28 (f28_2 hR) ?_
    refine aX_aload_n dX2_rounded_61 rfl ?_
    refine aX_get dX2_rounded_62 lfX2_18 s28 (f28_1 hR) ?_
    refine cV (As := [.ref 31]) (st := []) dX2_rounded_65 kX2_rounded_27 s33 aEok0 rfl rfl (Nat.le_of_ble_eq_true rfl) (c_copy (w33 hR) (w31 hR) (by decide) h31_5) (fun r h' hq => ?_)
    obtain ⟨rfl, J6, rfl, hd6, hk6⟩ := hq
    refine ⟨rfl, ?_⟩
    have h33_6 : wR J6 33 (((Y * 2 : Nat) : Int)) false := hd6
    have h29_6 : wR J6 29 (((sv n1 ((X : Int) * 2) + Y).natAbs : Int)) ((decide ((sv n1 ((X : Int) * 2) + Y) < 0))) := wR_oK hk6 (w29 hR) (w33 hR) (by decide) h29_5
    have h31_6 : wR J6 31 (((Y * 2 : Nat) : Int)) false := wR_oK hk6 (w31 hR) (w33 hR) (by decide) h31_5
    have hf6 : fK I J6 := fK_o hf5 hk6 (by decide) (by decide)
    refine aX_aload_n dX2_rounded_68 rfl ?_
    refine aX_get dX2_rounded_69 lfX2_21 s28 (f28_2 hR) ?_
    refine aX_iload_n dX2_rounded_72 rfl ?_
    refine aX_iconst (v := nI 0) dX2_rounded_73 (by decide) ?_
    refine cV (As := [.int (nI ((sv n1 ((X : Int) * 2) + Y).natAbs / (Y * 2))), .int (nI (0))]) (st := []) dX2_rounded_74 kX2_rounded_31 s33 aEok0 rfl rfl (Nat.le_of_ble_eq_true rfl) (c_timesPlus (w33 hR) h33_6.1 hq31 (by decide)) (fun r h' hq => ?_)
    obtain ⟨rfl, J7, rfl, hd7, hk7⟩ := hq
    refine ⟨rfl, ?_⟩
    rw [show ((Y * 2 : Nat) : Int) * (((sv n1 ((X : Int) * 2) + Y).natAbs / (Y * 2) : Nat) : Int) + ((0 : Nat) : Int) = ((Y * 2 * ((sv n1 ((X : Int) * 2) + Y).natAbs / (Y * 2)) : Nat) : Int) by push_cast; omega] at hd7
    have h33_7 : wR J7 33 (((Y * 2 * ((sv n1 ((X : Int) * 2) + Y).natAbs / (Y * 2)) : Nat) : Int)) false := wR_new hk7 h33_6 hd7
    have h29_7 : wR J7 29 (((sv n1 ((X : Int) * 2) + Y).natAbs : Int)) ((decide ((sv n1 ((X : Int) * 2) + Y) < 0))) := wR_rK hk7 (w29 hR) (w33 hR) (by decide) h29_6
    have h31_7 : wR J7 31 (((Y * 2 : Nat) : Int)) false := wR_rK hk7 (w31 hR) (w33 hR) (by decide) h31_6
    have hf7 : fK I J7 := fK_o hf6 (rK_oK hk7) (by decide) (by decide)
    refine aX_aload_n dX2_rounded_77 rfl ?_
    refine aX_get dX2_rounded_78 lfX2_21 s28 (f28_2 hR) ?_
    refine aX_aload_n dX2_rounded_81 rfl ?_
    refine aX_get dX2_rounded_82 lfX2_12 s28 (f28_0 hR) ?_
    refine cVp (As := [.ref 29]) (st := []) (v := .int (jCp ((Y * 2 * ((sv n1 ((X : Int) * 2) + Y).natAbs / (Y * 2)) : Nat) : Int) ((sv n1 ((X : Int) * 2) + Y).natAbs : Int))) dX2_rounded_85 kX2_rounded_65 s33 aEok0 rfl rfl (Nat.le_of_ble_eq_true rfl) (c_compareSize (w33 hR) h33_7.1 (w29 hR) h29_7.1 (by omega) (by have := Nat.mul_div_le (sv n1 ((X : Int) * 2) + Y).natAbs (Y * 2); omega) (by omega) hAb) ?_
    refine aX_if_ne (tgt := 96) dX2_rounded_88 (by decide) (fun c2 => ?_) (fun c2 => ?_)
    · have hne : Y * 2 * ((sv n1 ((X : Int) * 2) + Y).natAbs / (Y * 2)) ≠ (sv n1 ((X : Int) * 2) + Y).natAbs := fun z => c2 (jCp_eq.mpr (by rw [z]))
      refine aX_iload_n dX2_rounded_96 rfl ?_
      refine aX_ineg dX2_rounded_97 ?_
      refine aX_iconst (v := nI 1) dX2_rounded_98 (by decide) ?_
      refine aX_isub dX2_rounded_99 ?_
      exact rI dX2_rounded_100 rfl (⟨by rw [rd_neg2 (by omega) hneg hne, nZ, nZ, iZ_neg, iZ_sub], J7, rfl, hf7⟩)
    · have heq : Y * 2 * ((sv n1 ((X : Int) * 2) + Y).natAbs / (Y * 2)) = (sv n1 ((X : Int) * 2) + Y).natAbs := by have := jCp_eq.mp c2; omega
      refine aX_iload_n dX2_rounded_91 rfl ?_
      refine aX_ineg dX2_rounded_92 ?_
      refine aX_goto (tgt := 100) dX2_rounded_93 (by decide) ?_
      exact rI dX2_rounded_100 rfl (⟨by rw [rd_neg1 (by omega) hneg heq, nZ, iZ_neg], J7, rfl, hf7⟩)
  · have hpos : ¬ (sv n1 ((X : Int) * 2) + Y) < 0 := of_decide_eq_false c1
    refine aX_iload_n dX2_rounded_55 rfl ?_
    exact rI dX2_rounded_56 rfl (⟨by rw [rd_pos (by omega) hpos, nZ], J5, rfl, hf5⟩)
/-! THE TEXT -/
def tRep (I : Nat → Nat → Int32) (l : List Nat) : Prop := I 37 1 = nI l.length ∧ l.length ≤ 256 ∧ ∀ j c, l[j]? = some c → I 38 j = nI c ∧ c < 128
def tK (I I' : Nat → Nat → Int32) : Prop := ∀ q j, ¬ (q = 37 ∧ j = 1) → q ≠ 38 → I' q j = I q j
theorem b8 {c : Nat} (h : c < 128) : (nI c).toInt8.toInt32 = nI c := by
  have : ∀ b : Nat, b < 128 → (nI b).toInt8.toInt32 = nI b := by decide
  exact this c h
set_option maxHeartbeats 1000000 in
theorem c_tappend {I : Nat → Nat → Int32} {L : Nat → Nat → Int64} {R : Nat → Nat → Option Nat} (hR : aRf R) {l : List Nat} (hl : tRep I l) (hl2 : l.length < 256) {c : Nat} (hc : c < 128) : aM mX8_append [.ref 37, .int (nI c)] (sh0, I, L, R) (fun ans h' => ans = none ∧ ∃ I', h' = (sh0, I', L, R) ∧ tRep I' (l ++ [c]) ∧ tK I I') := by
  refine aM_of plX8_append (Nat.le_of_ble_eq_true rfl) ?_
  refine aX_aload_n dX8_append_0 rfl ?_
  refine aX_get (v := .int (nI (l.length))) dX8_append_1 lfX8_20 s37 (congrArg Value.int (hl.1)) ?_
  refine aX_sipush (v := nI 256) dX8_append_4 (by decide) ?_
  refine nGe (tgt := 31) dX8_append_7 (by decide) (by first | omega | exact Nat.lt_of_le_of_lt (Nat.mod_le _ _) (by omega)) (by first | omega | exact Nat.lt_of_le_of_lt (Nat.mod_le _ _) (by omega)) (fun c1 => ?_) (fun c1 => ?_)
  · exact absurd c1 (by omega)
  · refine aX_aload_n dX8_append_10 rfl ?_
    refine aX_get dX8_append_11 lfX8_9 s37 (f37_0 hR) ?_
    refine aX_aload_n dX8_append_14 rfl ?_
    refine aX_get (v := .int (nI (l.length))) dX8_append_15 lfX8_20 s37 (congrArg Value.int (hl.1)) ?_
    refine aX_iload_n dX8_append_18 rfl ?_
    refine aX_i2b dX8_append_19 ?_
    refine nBast dX8_append_20 s38 (by first | omega | exact Nat.lt_of_le_of_lt (Nat.mod_le _ _) (by omega)) (by decide) ?_
    refine aX_aload_n dX8_append_21 rfl ?_
    refine aX_dup dX8_append_22 rfl ?_
    refine aX_get (v := .int (nI (l.length))) dX8_append_23 lfX8_20 s37 (congrArg Value.int (show (aU I 38 l.length (((nI (c)).toInt8.toInt32).toInt8.toInt32)) 37 1 = nI l.length by rw [aU_n (by omega)]; exact hl.1)) ?_
    refine aX_iconst (v := nI 1) dX8_append_26 (by decide) ?_
    refine nAdd dX8_append_27 ?_
    refine pI dX8_append_28 lfX8_20 (fun _ _ _ hq => by cases hq; exact Or.inl rfl) s37 rfl ?_
    exact rV dX8_append_31 rfl (⟨rfl, _, rfl, ⟨by rw [aU_s, List.length_append]; rfl, by rw [List.length_append]; exact hl2, fun j x hx => by
      rw [aU_n (by omega)]
      by_cases e : j < l.length
      · rw [List.getElem?_append_left e] at hx
        rw [aU_n (by omega)]; exact hl.2.2 j x hx
      · rw [List.getElem?_append_right (by omega)] at hx
        have hz : j - l.length < 1 := (List.getElem?_eq_some_iff.mp hx).1
        obtain rfl : j = l.length := by omega
        rw [Nat.sub_self] at hx
        cases hx
        rw [aU_s, b8 hc, b8 hc]
        exact ⟨rfl, hc⟩⟩, fun q j g1 g2 => by rw [aU_n (by omega), aU_n (by omega)]⟩)
