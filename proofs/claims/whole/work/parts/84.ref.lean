/-! THE REFERENCE: common divisors, quotients -/
theorem hCp_gt {x y : Nat} : (0 < hCp x y) ↔ y < x := by
  unfold hCp
  by_cases a : x < y
  · rw [if_pos a]; exact ⟨fun h => absurd h (by decide), fun h => by omega⟩
  · rw [if_neg a]
    by_cases b : x = y
    · rw [if_pos b]; exact ⟨fun h => absurd h (by decide), fun h => by omega⟩
    · rw [if_neg b]; exact ⟨fun _ => by omega, fun _ => by decide⟩
theorem hCp_ge {x y : Nat} : (0 ≤ hCp x y) ↔ y ≤ x := by
  unfold hCp
  by_cases a : x < y
  · rw [if_pos a]; exact ⟨fun h => absurd h (by decide), fun h => by omega⟩
  · rw [if_neg a]
    by_cases b : x = y
    · rw [if_pos b]; exact ⟨fun _ => by omega, fun _ => by decide⟩
    · rw [if_neg b]; exact ⟨fun _ => by omega, fun _ => by decide⟩
theorem hCp_e0 {x y : Nat} : (hCp x y = 0) ↔ x = y := by
  unfold hCp
  by_cases a : x < y
  · rw [if_pos a]; exact ⟨fun h => absurd h (by decide), fun h => by omega⟩
  · rw [if_neg a]
    by_cases b : x = y
    · rw [if_pos b]; exact ⟨fun _ => b, fun _ => by decide⟩
    · rw [if_neg b]; exact ⟨fun h => absurd h (by decide), fun h => absurd h b⟩
theorem hPw18 : hPw 18 < 2 ^ 540 := by decide +kernel
def gdK (L L' : Nat → Nat → Int64) : Prop := ∀ q j, ¬ (q = 191 ∧ 36 ≤ j ∧ j < 90) → L' q j = L q j
theorem gdK_refl {L : Nat → Nat → Int64} : gdK L L := fun _ _ _ => rfl
theorem gdK_h {x : Nat} {L L1 L2 : Nat → Nat → Int64} (h : gdK L L1) (k : hKp x L1 L2) (h1 : 2 ≤ x) (h2 : x ≤ 4) : gdK L L2 := fun q j g => (k q j (by omega)).trans (h q j g)
theorem gcd_half {a b : Nat} (ha : ¬ a % 2 = 1) (hb : b % 2 = 1) : Nat.gcd (a / 2) b = Nat.gcd a b := by
  have h : Nat.Coprime 2 b := by
    rw [Nat.coprime_comm]
    show Nat.gcd b 2 = 1
    rw [Nat.gcd_comm, Nat.gcd_rec, hb]
    rfl
  have e : a = 2 * (a / 2) := by omega
  conv => rhs; rw [e]
  exact (Nat.Coprime.gcd_mul_left_cancel (a / 2) h).symm
theorem gcd_half' {a b : Nat} (ha : a % 2 = 1) (hb : ¬ b % 2 = 1) : Nat.gcd a (b / 2) = Nat.gcd a b := by
  rw [Nat.gcd_comm, gcd_half hb ha, Nat.gcd_comm]
set_option maxHeartbeats 1000000 in
theorem ml_dv3 {I : Nat → Nat → Int32} {L : Nat → Nat → Int64} {R : Nat → Nat → Option Nat} (hR : aRf R) {G t : Nat} (ht : t < 540) {X Y : Nat} (hG : Nat.gcd X Y = G * 2 ^ t) : ∀ (k9 k : Nat), k ≤ t → t - k = k9 → ∀ (L1 : Nat → Nat → Int64), hD L1 4 (G * 2 ^ k) → gdK L L1 → aX mX11_divisor aE0 (sh0, I, L1, R) 147 [(0, .ref 159), (1, .int (nI (4))), (2, .int (nI (2))), (3, .int (nI (3))), (4, .int (nI (t))), (5, .int (nI (k)))] [] 0 0 (fun ans h' => ans = none ∧ ∃ L', h' = (sh0, I, L', R) ∧ hD L' 4 (Nat.gcd X Y) ∧ gdK L L') := by
  intro k9
  induction k9 using Nat.strongRecOn with
  | _ k9 ih =>
    intro k hi hk9 L1  hz hk
    refine aX_iload dX11_divisor_147 rfl ?_
    refine aX_iload dX11_divisor_149 rfl ?_
    refine nGe (tgt := 169) dX11_divisor_151 (by decide) (by first | omega | exact Nat.lt_of_le_of_lt (Nat.mod_le _ _) (by omega)) (by first | omega | exact Nat.lt_of_le_of_lt (Nat.mod_le _ _) (by omega)) (fun c1 => ?_) (fun c1 => ?_)
    · have hkt : k = t := by omega
      exact rV dX11_divisor_169 rfl (⟨rfl, L1, rfl, by rw [hG, ← hkt]; exact hz, hk⟩)
    · refine aX_aload_n dX11_divisor_154 rfl ?_
      refine aX_iload_n dX11_divisor_155 rfl ?_
      refine aX_ldc2 (v := lN 2) dX11_divisor_156 lkX11_222 ?_
      refine aX_lconst (v := lN 0) dX11_divisor_159 rfl ?_
      refine cV (As := [.int (nI (4)), .long (lN (2)), .long (lN (0))]) (st := []) dX11_divisor_160 kX11_divisor_275 s159 aEok0 rfl rfl (Nat.le_of_ble_eq_true rfl) (m_step hR (by decide) hz (by decide) (by decide)) (fun ans' h' hq9 => ?_)
      obtain ⟨rfl, L2, rfl, g1, g2⟩ := hq9
      refine ⟨rfl, ?_⟩
      refine nInc (lv' := [(0, .ref 159), (1, .int (nI (4))), (2, .int (nI (2))), (3, .int (nI (3))), (4, .int (nI (t))), (5, .int (nI (k + 1)))]) dX11_divisor_163 rfl rfl (by decide) rfl ?_
      refine aX_goto (tgt := 147) dX11_divisor_166 (by decide) ?_
      exact ih (t - (k + 1)) (by omega) (k + 1) (by omega) rfl L2 (by rw [Nat.pow_succ, ← Nat.mul_assoc]; exact g1) (gdK_h hk g2 (by decide) (by decide))
set_option maxHeartbeats 1000000 in
theorem ml_dv2e {I : Nat → Nat → Int32} {L : Nat → Nat → Int64} {R : Nat → Nat → Option Nat} (hR : aRf R) {A B t X Y : Nat} (ht : t < 540) {L1 : Nat → Nat → Int64} (hA : hD L1 2 A) (hBq : hD L1 3 B) (hAl : A < hPw 18) (hBl : B < hPw 18) (hG : Nat.gcd X Y = 2 ^ t * Nat.gcd A B) (hk : gdK L L1) (h0 : A = 0 ∨ B = 0) : aX mX11_divisor aE0 (sh0, I, L1, R) 126 [(0, .ref 159), (1, .int (nI 4)), (2, .int (nI 2)), (3, .int (nI 3)), (4, .int (nI t))] [] 0 0 (fun ans h' => ans = none ∧ ∃ L', h' = (sh0, I, L', R) ∧ hD L' 4 (Nat.gcd X Y) ∧ gdK L L') := by
  refine aX_aload_n dX11_divisor_126 rfl ?_
  refine aX_iload_n dX11_divisor_127 rfl ?_
  refine aX_aload_n dX11_divisor_128 rfl ?_
  refine aX_iload_n dX11_divisor_129 rfl ?_
  refine cVp (As := [.int (nI (2))]) (st := [.int (nI (4)), .ref 159]) (v := .int (bI (decide (A = 0)))) dX11_divisor_130 kX11_divisor_255 s159 aEok0 rfl rfl (Nat.le_of_ble_eq_true rfl) (m_isZero hR (by decide) hA hAl) ?_
  refine bEq (tgt := 140) dX11_divisor_133 (by decide) (fun c1 => ?_) (fun c1 => ?_)
  · have ez := of_decide_eq_false c1
    refine aX_iload_n dX11_divisor_140 rfl ?_
    refine cV (As := [.int (nI (4)), .int (nI (2))]) (st := []) dX11_divisor_141 kX11_divisor_272 s159 aEok0 rfl rfl (Nat.le_of_ble_eq_true rfl) (m_copy hR (by decide) (by decide) hA (by decide)) (fun ans' h' hq9 => ?_)
    obtain ⟨rfl, L2, rfl, g1, g2⟩ := hq9
    refine ⟨rfl, ?_⟩
    refine aX_iconst (v := nI 0) dX11_divisor_144 (by decide) ?_
    refine aX_istore (lv' := [(0, .ref 159), (1, .int (nI (4))), (2, .int (nI (2))), (3, .int (nI (3))), (4, .int (nI (t))), (5, .int (nI (0)))]) dX11_divisor_145 (by decide) rfl ?_
    exact ml_dv3 hR ht (G := A) (by rw [hG, Nat.mul_comm]; congr 1; rw [h0.resolve_left ez, Nat.gcd_zero_right]) _ 0 (by omega) rfl L2 (by rw [Nat.pow_zero, Nat.mul_one]; exact g1) (gdK_h hk g2 (by decide) (by decide))
  · have ez := of_decide_eq_true c1
    refine aX_iload_n dX11_divisor_136 rfl ?_
    refine aX_goto (tgt := 141) dX11_divisor_137 (by decide) ?_
    refine cV (As := [.int (nI (4)), .int (nI (3))]) (st := []) dX11_divisor_141 kX11_divisor_272 s159 aEok0 rfl rfl (Nat.le_of_ble_eq_true rfl) (m_copy hR (by decide) (by decide) hBq (by decide)) (fun ans' h' hq9 => ?_)
    obtain ⟨rfl, L2, rfl, g1, g2⟩ := hq9
    refine ⟨rfl, ?_⟩
    refine aX_iconst (v := nI 0) dX11_divisor_144 (by decide) ?_
    refine aX_istore (lv' := [(0, .ref 159), (1, .int (nI (4))), (2, .int (nI (2))), (3, .int (nI (3))), (4, .int (nI (t))), (5, .int (nI (0)))]) dX11_divisor_145 (by decide) rfl ?_
    exact ml_dv3 hR ht (G := B) (by rw [hG, Nat.mul_comm]; congr 1; rw [ez, Nat.gcd_zero_left]) _ 0 (by omega) rfl L2 (by rw [Nat.pow_zero, Nat.mul_one]; exact g1) (gdK_h hk g2 (by decide) (by decide))
set_option maxHeartbeats 1000000 in
theorem ml_dv2 {I : Nat → Nat → Int32} {L : Nat → Nat → Int64} {R : Nat → Nat → Option Nat} (hR : aRf R) {t X Y : Nat} (ht : t < 540) : ∀ (k9 A B : Nat) (L1 : Nat → Nat → Int64), A + B = k9 → hD L1 2 A → hD L1 3 B → A < hPw 18 → B < hPw 18 → Nat.gcd X Y = 2 ^ t * Nat.gcd A B → (A = 0 ∨ B = 0 ∨ A % 2 = 1 ∨ B % 2 = 1) → gdK L L1 → aX mX11_divisor aE0 (sh0, I, L1, R) 51 [(0, .ref 159), (1, .int (nI 4)), (2, .int (nI 2)), (3, .int (nI 3)), (4, .int (nI t))] [] 0 0 (fun ans h' => ans = none ∧ ∃ L', h' = (sh0, I, L', R) ∧ hD L' 4 (Nat.gcd X Y) ∧ gdK L L') := by
  intro k9
  induction k9 using Nat.strongRecOn with
  | _ k9 ih =>
    intro A B L1 hk9 hA hBq hAl hBl hG ho hk
    refine aX_aload_n dX11_divisor_51 rfl ?_
    refine aX_iload_n dX11_divisor_52 rfl ?_
    refine cVp (As := [.int (nI (2))]) (st := []) (v := .int (bI (decide (A = 0)))) dX11_divisor_53 kX11_divisor_255 s159 aEok0 rfl rfl (Nat.le_of_ble_eq_true rfl) (m_isZero hR (by decide) hA hAl) ?_
    refine bNe (tgt := 126) dX11_divisor_56 (by decide) (fun c1 => ?_) (fun c1 => ?_)
    · have z1 := of_decide_eq_true c1
      exact ml_dv2e hR ht hA hBq hAl hBl hG hk (Or.inl z1)
    · have z1 := of_decide_eq_false c1
      refine aX_aload_n dX11_divisor_59 rfl ?_
      refine aX_iload_n dX11_divisor_60 rfl ?_
      refine cVp (As := [.int (nI (3))]) (st := []) (v := .int (bI (decide (B = 0)))) dX11_divisor_61 kX11_divisor_255 s159 aEok0 rfl rfl (Nat.le_of_ble_eq_true rfl) (m_isZero hR (by decide) hBq hBl) ?_
      refine bNe (tgt := 126) dX11_divisor_64 (by decide) (fun c2 => ?_) (fun c2 => ?_)
      · have z2 := of_decide_eq_true c2
        exact ml_dv2e hR ht hA hBq hAl hBl hG hk (Or.inr z2)
      · have z2 := of_decide_eq_false c2
        refine aX_aload_n dX11_divisor_67 rfl ?_
        refine aX_iload_n dX11_divisor_68 rfl ?_
        refine cVp (As := [.int (nI (2))]) (st := []) (v := .int (bI (decide (A % 2 = 1)))) dX11_divisor_69 kX11_divisor_258 s159 aEok0 rfl rfl (Nat.le_of_ble_eq_true rfl) (m_isOdd hR (by decide) hA) ?_
        refine bNe (tgt := 83) dX11_divisor_72 (by decide) (fun c3 => ?_) (fun c3 => ?_)
        · have o1 := of_decide_eq_true c3
          refine aX_aload_n dX11_divisor_83 rfl ?_
          refine aX_iload_n dX11_divisor_84 rfl ?_
          refine cVp (As := [.int (nI (3))]) (st := []) (v := .int (bI (decide (B % 2 = 1)))) dX11_divisor_85 kX11_divisor_258 s159 aEok0 rfl rfl (Nat.le_of_ble_eq_true rfl) (m_isOdd hR (by decide) hBq) ?_
          refine bNe (tgt := 99) dX11_divisor_88 (by decide) (fun c4 => ?_) (fun c4 => ?_)
          · have o2 := of_decide_eq_true c4
            refine aX_aload_n dX11_divisor_99 rfl ?_
            refine aX_iload_n dX11_divisor_100 rfl ?_
            refine aX_iload_n dX11_divisor_101 rfl ?_
            refine cVp (As := [.int (nI (2)), .int (nI (3))]) (st := []) (v := .int (hCp A B)) dX11_divisor_102 kX11_divisor_265 s159 aEok0 rfl rfl (Nat.le_of_ble_eq_true rfl) (m_compare hR (by decide) (by decide) hA hBq hAl hBl) ?_
            refine aX_if_ge (tgt := 117) dX11_divisor_105 (by decide) (fun c5 => ?_) (fun c5 => ?_)
            · have hle := hCp_ge.mp c5
              refine aX_aload_n dX11_divisor_117 rfl ?_
              refine aX_iload_n dX11_divisor_118 rfl ?_
              refine aX_iload_n dX11_divisor_119 rfl ?_
              refine cV (As := [.int (nI (2)), .int (nI (3))]) (st := []) dX11_divisor_120 kX11_divisor_268 s159 aEok0 rfl rfl (Nat.le_of_ble_eq_true rfl) (m_less hR (by decide) (by decide) hA hBq (by decide) hle) (fun ans' h' hq9 => ?_)
              obtain ⟨rfl, L2, rfl, g1, g2⟩ := hq9
              refine ⟨rfl, ?_⟩
              refine aX_goto (tgt := 51) dX11_divisor_123 (by decide) ?_
              exact ih ((A - B) + B) (by omega) (A - B) B L2 rfl g1 (hD_hK hBq (by decide) g2) (by omega) hBl (by rw [hG, Nat.gcd_sub_self_left hle]) (Or.inr (Or.inr (Or.inr o2))) (gdK_h hk g2 (by decide) (by decide))
            · have hle : A ≤ B := Nat.le_of_lt (Nat.lt_of_not_le (fun z => c5 (hCp_ge.mpr z)))
              refine aX_aload_n dX11_divisor_108 rfl ?_
              refine aX_iload_n dX11_divisor_109 rfl ?_
              refine aX_iload_n dX11_divisor_110 rfl ?_
              refine cV (As := [.int (nI (3)), .int (nI (2))]) (st := []) dX11_divisor_111 kX11_divisor_268 s159 aEok0 rfl rfl (Nat.le_of_ble_eq_true rfl) (m_less hR (by decide) (by decide) hBq hA (by decide) hle) (fun ans' h' hq9 => ?_)
              obtain ⟨rfl, L2, rfl, g1, g2⟩ := hq9
              refine ⟨rfl, ?_⟩
              refine aX_goto (tgt := 51) dX11_divisor_114 (by decide) ?_
              exact ih (A + (B - A)) (by omega) A (B - A) L2 rfl (hD_hK hA (by decide) g2) g1 hAl (by omega) (by rw [hG, Nat.gcd_sub_self_right hle]) (Or.inr (Or.inr (Or.inl o1))) (gdK_h hk g2 (by decide) (by decide))
          · have o2 := of_decide_eq_false c4
            refine aX_aload_n dX11_divisor_91 rfl ?_
            refine aX_iload_n dX11_divisor_92 rfl ?_
            refine cV (As := [.int (nI (3))]) (st := []) dX11_divisor_93 kX11_divisor_261 s159 aEok0 rfl rfl (Nat.le_of_ble_eq_true rfl) (m_halve hR (by decide) hBq hBl) (fun ans' h' hq9 => ?_)
            obtain ⟨rfl, L2, rfl, g1, g2⟩ := hq9
            refine ⟨rfl, ?_⟩
            refine aX_goto (tgt := 51) dX11_divisor_96 (by decide) ?_
            exact ih (A + B / 2) (by omega) A (B / 2) L2 rfl (hD_hK hA (by decide) g2) g1 hAl (by omega) (by rw [hG, gcd_half' o1 o2]) (Or.inr (Or.inr (Or.inl o1))) (gdK_h hk g2 (by decide) (by decide))
        · have o1 := of_decide_eq_false c3
          refine aX_aload_n dX11_divisor_75 rfl ?_
          refine aX_iload_n dX11_divisor_76 rfl ?_
          refine cV (As := [.int (nI (2))]) (st := []) dX11_divisor_77 kX11_divisor_261 s159 aEok0 rfl rfl (Nat.le_of_ble_eq_true rfl) (m_halve hR (by decide) hA hAl) (fun ans' h' hq9 => ?_)
          obtain ⟨rfl, L2, rfl, g1, g2⟩ := hq9
          refine ⟨rfl, ?_⟩
          refine aX_goto (tgt := 51) dX11_divisor_80 (by decide) ?_
          exact ih (A / 2 + B) (by omega) (A / 2) B L2 rfl g1 (hD_hK hBq (by decide) g2) (by omega) hBl (by rw [hG, gcd_half o1 (ho.resolve_left (by omega) |>.resolve_left (by omega) |>.resolve_left o1)]) (Or.inr (Or.inr (Or.inr (ho.resolve_left (by omega) |>.resolve_left (by omega) |>.resolve_left o1)))) (gdK_h hk g2 (by decide) (by decide))
set_option maxHeartbeats 1000000 in
theorem ml_dv1 {I : Nat → Nat → Int32} {L : Nat → Nat → Int64} {R : Nat → Nat → Option Nat} (hR : aRf R) {X Y : Nat} (hX18 : X < hPw 18) : ∀ (A B t : Nat) (L1 : Nat → Nat → Int64), 2 ^ t * A = X → 2 ^ t * B = Y → (t = 0 ∨ 0 < A) → hD L1 2 A → hD L1 3 B → A < hPw 18 → B < hPw 18 → gdK L L1 → aX mX11_divisor aE0 (sh0, I, L1, R) 3 [(0, .ref 159), (1, .int (nI 4)), (2, .int (nI 2)), (3, .int (nI 3)), (4, .int (nI t))] [] 0 0 (fun ans h' => ans = none ∧ ∃ L', h' = (sh0, I, L', R) ∧ hD L' 4 (Nat.gcd X Y) ∧ gdK L L') := by
  intro A
  induction A using Nat.strongRecOn with
  | _ A ih =>
    intro B t L1 eX eY ht0 hA hBq hAl hBl hk
    refine aX_aload_n dX11_divisor_3 rfl ?_
    refine aX_iload_n dX11_divisor_4 rfl ?_
    refine cVp (As := [.int (nI (2))]) (st := []) (v := .int (bI (decide (A = 0)))) dX11_divisor_5 kX11_divisor_255 s159 aEok0 rfl rfl (Nat.le_of_ble_eq_true rfl) (m_isZero hR (by decide) hA hAl) ?_
    refine bNe (tgt := 51) dX11_divisor_8 (by decide) (fun c1 => ?_) (fun c1 => ?_)
    · have z1 := of_decide_eq_true c1
      have ht : t < 540 := by
        rcases ht0 with e | e
        · omega
        · refine Nat.lt_of_not_le (fun z => ?_)
          have h1 : 2 ^ 540 ≤ 2 ^ t := Nat.pow_le_pow_right (by decide) z
          have h2 : 2 ^ t * 1 ≤ 2 ^ t * A := Nat.mul_le_mul_left _ e
          have h3 := hPw18
          omega
      exact ml_dv2 hR ht _ A B L1 rfl hA hBq hAl hBl (by rw [← eX, ← eY, Nat.gcd_mul_left]) (Or.inl z1) hk
    · have z1 := of_decide_eq_false c1
      refine aX_aload_n dX11_divisor_11 rfl ?_
      refine aX_iload_n dX11_divisor_12 rfl ?_
      refine cVp (As := [.int (nI (3))]) (st := []) (v := .int (bI (decide (B = 0)))) dX11_divisor_13 kX11_divisor_255 s159 aEok0 rfl rfl (Nat.le_of_ble_eq_true rfl) (m_isZero hR (by decide) hBq hBl) ?_
      refine bNe (tgt := 51) dX11_divisor_16 (by decide) (fun c2 => ?_) (fun c2 => ?_)
      · have z2 := of_decide_eq_true c2
        have ht : t < 540 := by
          rcases ht0 with e | e
          · omega
          · refine Nat.lt_of_not_le (fun z => ?_)
            have h1 : 2 ^ 540 ≤ 2 ^ t := Nat.pow_le_pow_right (by decide) z
            have h2 : 2 ^ t * 1 ≤ 2 ^ t * A := Nat.mul_le_mul_left _ e
            have h3 := hPw18
            omega
        exact ml_dv2 hR ht _ A B L1 rfl hA hBq hAl hBl (by rw [← eX, ← eY, Nat.gcd_mul_left]) (Or.inr (Or.inl z2)) hk
      · have z2 := of_decide_eq_false c2
        refine aX_aload_n dX11_divisor_19 rfl ?_
        refine aX_iload_n dX11_divisor_20 rfl ?_
        refine cVp (As := [.int (nI (2))]) (st := []) (v := .int (bI (decide (A % 2 = 1)))) dX11_divisor_21 kX11_divisor_258 s159 aEok0 rfl rfl (Nat.le_of_ble_eq_true rfl) (m_isOdd hR (by decide) hA) ?_
        refine bNe (tgt := 51) dX11_divisor_24 (by decide) (fun c3 => ?_) (fun c3 => ?_)
        · have o1 := of_decide_eq_true c3
          have ht : t < 540 := by
            rcases ht0 with e | e
            · omega
            · refine Nat.lt_of_not_le (fun z => ?_)
              have h1 : 2 ^ 540 ≤ 2 ^ t := Nat.pow_le_pow_right (by decide) z
              have h2 : 2 ^ t * 1 ≤ 2 ^ t * A := Nat.mul_le_mul_left _ e
              have h3 := hPw18
              omega
          exact ml_dv2 hR ht _ A B L1 rfl hA hBq hAl hBl (by rw [← eX, ← eY, Nat.gcd_mul_left]) (Or.inr (Or.inr (Or.inl o1))) hk
        · have o1 := of_decide_eq_false c3
          refine aX_aload_n dX11_divisor_27 rfl ?_
          refine aX_iload_n dX11_divisor_28 rfl ?_
          refine cVp (As := [.int (nI (3))]) (st := []) (v := .int (bI (decide (B % 2 = 1)))) dX11_divisor_29 kX11_divisor_258 s159 aEok0 rfl rfl (Nat.le_of_ble_eq_true rfl) (m_isOdd hR (by decide) hBq) ?_
          refine bNe (tgt := 51) dX11_divisor_32 (by decide) (fun c4 => ?_) (fun c4 => ?_)
          · have o2 := of_decide_eq_true c4
            have ht : t < 540 := by
              rcases ht0 with e | e
              · omega
              · refine Nat.lt_of_not_le (fun z => ?_)
                have h1 : 2 ^ 540 ≤ 2 ^ t := Nat.pow_le_pow_right (by decide) z
                have h2 : 2 ^ t * 1 ≤ 2 ^ t * A := Nat.mul_le_mul_left _ e
                have h3 := hPw18
                omega
            exact ml_dv2 hR ht _ A B L1 rfl hA hBq hAl hBl (by rw [← eX, ← eY, Nat.gcd_mul_left]) (Or.inr (Or.inr (Or.inr o2))) hk
          · have o2 := of_decide_eq_false c4
            refine aX_aload_n dX11_divisor_35 rfl ?_
            refine aX_iload_n dX11_divisor_36 rfl ?_
            refine cV (As := [.int (nI (2))]) (st := []) dX11_divisor_37 kX11_divisor_261 s159 aEok0 rfl rfl (Nat.le_of_ble_eq_true rfl) (m_halve hR (by decide) hA hAl) (fun ans' h' hq9 => ?_)
            obtain ⟨rfl, L2, rfl, g1, g2⟩ := hq9
            refine ⟨rfl, ?_⟩
            refine aX_aload_n dX11_divisor_40 rfl ?_
            refine aX_iload_n dX11_divisor_41 rfl ?_
            refine cV (As := [.int (nI (3))]) (st := []) dX11_divisor_42 kX11_divisor_261 s159 aEok0 rfl rfl (Nat.le_of_ble_eq_true rfl) (m_halve hR (by decide) (hD_hK hBq (by decide) g2) hBl) (fun ans' h' hq9 => ?_)
            obtain ⟨rfl, L3, rfl, g3, g4⟩ := hq9
            refine ⟨rfl, ?_⟩
            refine nInc (lv' := [(0, .ref 159), (1, .int (nI (4))), (2, .int (nI (2))), (3, .int (nI (3))), (4, .int (nI (t + 1)))]) dX11_divisor_45 rfl rfl (by decide) rfl ?_
            refine aX_goto (tgt := 3) dX11_divisor_48 (by decide) ?_
            exact ih (A / 2) (by omega) (B / 2) (t + 1) L3 (by rw [Nat.pow_succ, Nat.mul_assoc, show 2 * (A / 2) = A by omega]; exact eX) (by rw [Nat.pow_succ, Nat.mul_assoc, show 2 * (B / 2) = B by omega]; exact eY) (Or.inr (by omega)) (hD_hK g1 (by decide) g4) g3 (by omega) (by omega) (gdK_h (gdK_h hk g2 (by decide) (by decide)) g4 (by decide) (by decide))
set_option maxHeartbeats 1000000 in
theorem m_divisor {I : Nat → Nat → Int32} {L : Nat → Nat → Int64} {R : Nat → Nat → Option Nat} (hR : aRf R) {X Y : Nat} (hX : hD L 2 X) (hY : hD L 3 Y) (hX1 : X < hPw 18) (hY1 : Y < hPw 18) : aM mX11_divisor [.ref 159, .int (nI 4), .int (nI 2), .int (nI 3)] (sh0, I, L, R) (fun ans h' => ans = none ∧ ∃ L', h' = (sh0, I, L', R) ∧ hD L' 4 (Nat.gcd X Y) ∧ gdK L L') := by
  refine aM_of plX11_divisor (Nat.le_of_ble_eq_true rfl) ?_
  refine aX_iconst (v := nI 0) dX11_divisor_0 (by decide) ?_
  refine aX_istore (lv' := [(0, .ref 159), (1, .int (nI (4))), (2, .int (nI (2))), (3, .int (nI (3))), (4, .int (nI (0)))]) dX11_divisor_1 (by decide) rfl ?_
  exact ml_dv1 hR hX1 X Y 0 L (by rw [Nat.pow_zero, Nat.one_mul]) (by rw [Nat.pow_zero, Nat.one_mul]) (Or.inl rfl) hX hY hX1 hY1 gdK_refl
def dqK (x z : Nat) (L L' : Nat → Nat → Int64) : Prop := ∀ q j, ¬ (q = 191 ∧ ((18 * x ≤ j ∧ j < 18 * x + 18) ∨ (18 * z ≤ j ∧ j < 18 * z + 18) ∨ 198 ≤ j)) → L' q j = L q j
theorem dqK_h {x z y : Nat} {L L1 L2 : Nat → Nat → Int64} (h : dqK x z L L1) (k : hKp y L1 L2) (hy : y = x ∨ y = z ∨ y = 11) : dqK x z L L2 := fun q j g => (k q j (by omega)).trans (h q j g)
theorem hDg_top {x i : Nat} (h : x < hPw (i + 1)) : hDg x i = x / hPw i := by
  have := hDg_high x i
  rw [Nat.div_eq_of_lt h] at this
  omega
theorem dv_dg {Q l a : Nat} (hl : l < 1000000000) (j : Nat) : hDg ((Q * 1000000000 + l) * hPw a) j = if j = a then l else hDg (Q * hPw (a + 1)) j := by
  rw [hDg_shift, hDg_shift]
  by_cases e : j = a
  · rw [if_pos e, if_neg (by omega), e, Nat.sub_self, hDg_0]; omega
  · rw [if_neg e]
    by_cases g : j < a
    · rw [if_pos g, if_pos (by omega)]
    · rw [if_neg g, if_neg (by omega)]
      obtain ⟨d, rfl⟩ : ∃ d, j = a + (d + 1) := ⟨j - a - 1, by omega⟩
      rw [show a + (d + 1) - a = d + 1 by omega, show a + (d + 1) - (a + 1) = d by omega]
      unfold hDg
      rw [hPw_s, Nat.mul_comm (hPw d), ← Nat.div_div_eq_div_mul, show (Q * 1000000000 + l) / 1000000000 = Q by omega]
theorem mul_lt_mul3 {a b c : Nat} (h : b < c) (ha : 0 < a) : a * b < a * c := Nat.mul_lt_mul_of_pos_left h ha
set_option maxHeartbeats 1000000 in
theorem ml_dvB {I : Nat → Nat → Int32} {L : Nat → Nat → Int64} {R : Nat → Nat → Option Nat} (hR : aRf R) {z x y : Nat} (hz : z < 11) (hx : x < 11) (hy : y < 11) (hzx : z ≠ x) (hzy : z ≠ y) (hxy : x ≠ y) {X Y : Nat} {A a : Nat} (ha : a < 18) {L1 : Nat → Nat → Int64} (hA : hD L1 x A) (hA1 : A < hPw 18) (hY : hD L1 y Y) (hYb : Y * hPw a < hPw 17) {Q : Option Value → aH → Prop} {v : Value} (kk : ∀ L2 : Nat → Nat → Int64, hKp 11 L1 L2 → aX mX11_divide_ aE0 (sh0, I, L2, R) 135 [(0, .ref 159), (1, .int (nI z)), (2, .int (nI x)), (3, .int (nI y)), (4, v), (5, .int (nI a)), (6, .long (lN (A / (Y * hPw a)))), (8, .long (lN (A / (Y * hPw a) + 1)))] [] 0 0 Q) : ∀ (k9 lo hi2 : Nat) (L2 : Nat → Nat → Int64), hi2 - lo = k9 → lo < hi2 → hi2 ≤ 1000000000 → Y * hPw a * lo ≤ A → A < Y * hPw a * hi2 → hKp 11 L1 L2 → aX mX11_divide_ aE0 (sh0, I, L2, R) 57 [(0, .ref 159), (1, .int (nI z)), (2, .int (nI x)), (3, .int (nI y)), (4, v), (5, .int (nI a)), (6, .long (lN lo)), (8, .long (lN hi2))] [] 0 0 Q := by
  intro k9
  induction k9 using Nat.strongRecOn with
  | _ k9 ih =>
    intro lo hi2 L2 hk9 hlo hhi h1 h2 hk2
    have hmb : Y * hPw a * ((lo + hi2) / 2) < hPw 18 := by
      have g : Y * hPw a * ((lo + hi2) / 2) ≤ hPw 17 * 1000000000 := Nat.mul_le_mul (Nat.le_of_lt hYb) (by omega)
      by_cases e : (lo + hi2) / 2 = 0
      · rw [e, Nat.mul_zero]; exact hPw_pos 18
      · have g2 : Y * hPw a * ((lo + hi2) / 2) < hPw 17 * ((lo + hi2) / 2) := Nat.mul_lt_mul_of_pos_right hYb (by omega)
        have g3 : hPw 17 * ((lo + hi2) / 2) ≤ hPw 17 * 1000000000 := Nat.mul_le_mul_left _ (by omega)
        rw [hPw_s]; omega
    refine aX_lload dX11_divide__57 rfl ?_
    refine aX_lload dX11_divide__59 rfl ?_
    refine kSub dX11_divide__61 (by first | omega | exact Nat.lt_of_le_of_lt (Nat.mod_le _ _) (by omega)) ?_
    refine aX_lconst (v := lN 1) dX11_divide__62 rfl ?_
    refine aX_lcmp dX11_divide__63 ?_
    refine kIf_le (tgt := 135) dX11_divide__64 (by decide) (by first | omega | exact Nat.lt_of_le_of_lt (Nat.mod_le _ _) (by omega)) (by first | omega | exact Nat.lt_of_le_of_lt (Nat.mod_le _ _) (by omega)) (fun c1 => ?_) (fun c1 => ?_)
    · have hq : A / (Y * hPw a) = lo := by
        refine Nat.div_eq_of_lt_le ?_ ?_
        · rw [Nat.mul_comm]; exact h1
        · rw [Nat.mul_comm, show lo + 1 = hi2 by omega]; exact h2
      have hh2 : hi2 = A / (Y * hPw a) + 1 := by omega
      rw [hh2, ← hq]
      exact kk L2 hk2
    · have hlh : lo + 1 < hi2 := by omega
      refine aX_lload dX11_divide__67 rfl ?_
      refine aX_lload dX11_divide__69 rfl ?_
      refine kAdd dX11_divide__71 ?_
      refine aX_ldc2 (v := lN 2) dX11_divide__72 lkX11_222 ?_
      refine kDiv dX11_divide__75 (by first | omega | exact Nat.lt_of_le_of_lt (Nat.mod_le _ _) (by omega)) (by first | omega | exact Nat.lt_of_le_of_lt (Nat.mod_le _ _) (by omega)) (by first | omega | exact Nat.lt_of_le_of_lt (Nat.mod_le _ _) (by omega)) ?_
      refine aX_lstore (lv' := [(0, .ref 159), (1, .int (nI (z))), (2, .int (nI (x))), (3, .int (nI (y))), (4, v), (5, .int (nI (a))), (6, .long (lN (lo))), (8, .long (lN (hi2))), (10, .long (lN ((lo + hi2) / 2)))]) dX11_divide__76 (by decide) rfl ?_
      refine aX_aload_n dX11_divide__78 rfl ?_
      refine aX_iload_n dX11_divide__79 rfl ?_
      refine aX_lload dX11_divide__80 rfl ?_
      refine aX_iload dX11_divide__82 rfl ?_
      refine cV (As := [.int (nI (y)), .long (lN ((lo + hi2) / 2)), .int (nI (a))]) (st := []) dX11_divide__84 kX11_divide__282 s159 aEok0 rfl rfl (Nat.le_of_ble_eq_true rfl) (m_moved hR (by omega) (hD_hK hY (by omega) hk2) (by omega) (a := (lo + hi2) / 2) (by omega) ha) (fun ans' h' hq9 => ?_)
      obtain ⟨rfl, L3, rfl, g1, g2⟩ := hq9
      refine ⟨rfl, ?_⟩
      have hk3 := hKp_trans hk2 g2
      have hA3 := hD_hK hA (show x ≠ 11 by omega) hk3
      refine aX_aload_n dX11_divide__87 rfl ?_
      refine aX_bipush (v := nI 11) dX11_divide__88 (by decide) ?_
      refine aX_iload_n dX11_divide__90 rfl ?_
      refine cVp (As := [.int (nI (11)), .int (nI (x))]) (st := []) (v := .int (hCp (Y * hPw a * ((lo + hi2) / 2)) A)) dX11_divide__91 kX11_divide__265 s159 aEok0 rfl rfl (Nat.le_of_ble_eq_true rfl) (m_compare hR (by decide) (by omega) g1 hA3 hmb hA1) ?_
      refine aX_if_gt (tgt := 101) dX11_divide__94 (by decide) (fun c2 => ?_) (fun c2 => ?_)
      · have hft : A < Y * hPw a * ((lo + hi2) / 2) := hCp_gt.mp c2
        refine aX_iconst (v := nI 0) dX11_divide__101 (by decide) ?_
        refine aX_istore (lv' := [(0, .ref 159), (1, .int (nI (z))), (2, .int (nI (x))), (3, .int (nI (y))), (4, v), (5, .int (nI (a))), (6, .long (lN (lo))), (8, .long (lN (hi2))), (10, .long (lN ((lo + hi2) / 2))), (12, .int (nI (0)))]) dX11_divide__102 (by decide) rfl ?_
        refine aX_iload dX11_divide__104 rfl ?_
        refine nIf_eq (tgt := 114) dX11_divide__106 (by decide) (by first | omega | exact Nat.lt_of_le_of_lt (Nat.mod_le _ _) (by omega)) (fun c3 => ?_) (fun c3 => ?_)
        · refine aX_lload dX11_divide__114 rfl ?_
          refine aX_lstore (lv' := [(0, .ref 159), (1, .int (nI (z))), (2, .int (nI (x))), (3, .int (nI (y))), (4, v), (5, .int (nI (a))), (6, .long (lN (lo))), (8, .long (lN (hi2))), (10, .long (lN ((lo + hi2) / 2))), (12, .int (nI (0)))]) dX11_divide__116 (by decide) rfl ?_
          refine aX_iload dX11_divide__118 rfl ?_
          refine nIf_eq (tgt := 128) dX11_divide__120 (by decide) (by first | omega | exact Nat.lt_of_le_of_lt (Nat.mod_le _ _) (by omega)) (fun c4 => ?_) (fun c4 => ?_)
          · refine aX_lload dX11_divide__128 rfl ?_
            refine aX_lstore (lv' := [(0, .ref 159), (1, .int (nI (z))), (2, .int (nI (x))), (3, .int (nI (y))), (4, v), (5, .int (nI (a))), (6, .long (lN (lo))), (8, .long (lN ((lo + hi2) / 2))), (10, .long (lN ((lo + hi2) / 2))), (12, .int (nI (0)))]) dX11_divide__130 (by decide) rfl ?_
            refine aX_goto (tgt := 57) dX11_divide__132 (by decide) ?_
            refine aX_lv (lv' := [(0, .ref 159), (1, .int (nI (z))), (2, .int (nI (x))), (3, .int (nI (y))), (4, v), (5, .int (nI (a))), (6, .long (lN (lo))), (8, .long (lN ((lo + hi2) / 2)))]) [0, 1, 2, 3, 4, 5, 6, 7] rfl ?_
            exact ih ((lo + hi2) / 2 - lo) (by omega) lo ((lo + hi2) / 2) L3 rfl (by omega) (by omega) h1 hft hk3
          · exact absurd c4 (by omega)
        · exact absurd c3 (by omega)
      · have hft : Y * hPw a * ((lo + hi2) / 2) ≤ A := Nat.le_of_not_lt (fun z => c2 (hCp_gt.mpr z))
        refine aX_iconst (v := nI 1) dX11_divide__97 (by decide) ?_
        refine aX_goto (tgt := 102) dX11_divide__98 (by decide) ?_
        refine aX_istore (lv' := [(0, .ref 159), (1, .int (nI (z))), (2, .int (nI (x))), (3, .int (nI (y))), (4, v), (5, .int (nI (a))), (6, .long (lN (lo))), (8, .long (lN (hi2))), (10, .long (lN ((lo + hi2) / 2))), (12, .int (nI (1)))]) dX11_divide__102 (by decide) rfl ?_
        refine aX_iload dX11_divide__104 rfl ?_
        refine nIf_eq (tgt := 114) dX11_divide__106 (by decide) (by first | omega | exact Nat.lt_of_le_of_lt (Nat.mod_le _ _) (by omega)) (fun c5 => ?_) (fun c5 => ?_)
        · exact absurd c5 (by omega)
        · refine aX_lload dX11_divide__109 rfl ?_
          refine aX_goto (tgt := 116) dX11_divide__111 (by decide) ?_
          refine aX_lstore (lv' := [(0, .ref 159), (1, .int (nI (z))), (2, .int (nI (x))), (3, .int (nI (y))), (4, v), (5, .int (nI (a))), (6, .long (lN ((lo + hi2) / 2))), (8, .long (lN (hi2))), (10, .long (lN ((lo + hi2) / 2))), (12, .int (nI (1)))]) dX11_divide__116 (by decide) rfl ?_
          refine aX_iload dX11_divide__118 rfl ?_
          refine nIf_eq (tgt := 128) dX11_divide__120 (by decide) (by first | omega | exact Nat.lt_of_le_of_lt (Nat.mod_le _ _) (by omega)) (fun c6 => ?_) (fun c6 => ?_)
          · exact absurd c6 (by omega)
          · refine aX_lload dX11_divide__123 rfl ?_
            refine aX_goto (tgt := 130) dX11_divide__125 (by decide) ?_
            refine aX_lstore (lv' := [(0, .ref 159), (1, .int (nI (z))), (2, .int (nI (x))), (3, .int (nI (y))), (4, v), (5, .int (nI (a))), (6, .long (lN ((lo + hi2) / 2))), (8, .long (lN (hi2))), (10, .long (lN ((lo + hi2) / 2))), (12, .int (nI (1)))]) dX11_divide__130 (by decide) rfl ?_
            refine aX_goto (tgt := 57) dX11_divide__132 (by decide) ?_
            refine aX_lv (lv' := [(0, .ref 159), (1, .int (nI (z))), (2, .int (nI (x))), (3, .int (nI (y))), (4, v), (5, .int (nI (a))), (6, .long (lN ((lo + hi2) / 2))), (8, .long (lN (hi2)))]) [0, 1, 2, 3, 4, 5, 6, 7] rfl ?_
            exact ih (hi2 - (lo + hi2) / 2) (by omega) ((lo + hi2) / 2) hi2 L3 rfl (by omega) hhi hft h2 hk3
set_option maxHeartbeats 1000000 in
theorem ml_dvM {I : Nat → Nat → Int32} {L : Nat → Nat → Int64} {R : Nat → Nat → Option Nat} (hR : aRf R) {z x y : Nat} (hz : z < 11) (hx : x < 11) (hy : y < 11) (hzx : z ≠ x) (hzy : z ≠ y) (hxy : x ≠ y) {X Y : Nat} (hX : hD L x X) (hY : hD L y Y) (hX1 : X < hPw 17) (hY1 : Y < hPw 17) (hY0 : 0 < Y) {t : Nat} (ht : t ≤ 16) (hYt : Y < hPw (t + 1)) : ∀ (k9 c : Nat), c ≤ 17 - t → c = k9 → ∀ (A Qh : Nat) (L1 : Nat → Nat → Int64), hD L1 x A → hD L1 z (Qh * hPw c) → hD L1 y Y → A < Y * hPw c → X = Qh * hPw c * Y + A → dqK x z L L1 → aX mX11_divide_ aE0 (sh0, I, L1, R) 44 [(0, .ref 159), (1, .int (nI (z))), (2, .int (nI (x))), (3, .int (nI (y))), (4, .int (nI (t))), (5, .int (jDn c))] [] 0 0 (fun ans h' => ans = none ∧ ∃ L', h' = (sh0, I, L', R) ∧ hD L' z (X / Y) ∧ hD L' x (X % Y) ∧ dqK x z L L') := by
  intro k9
  induction k9 using Nat.strongRecOn with
  | _ k9 ih =>
    intro c hi hk9 A Qh  L1  hA hZ hY1' hAc hXe hk
    cases c with
    | zero =>
      refine aX_iload dX11_divide__44 rfl ?_
      refine aX_if_lt (tgt := 171) dX11_divide__46 (by decide) (fun c1 => ?_) (fun c1 => ?_)
      · exact rV dX11_divide__171 rfl (⟨rfl, L1, rfl, by
                rw [hPw_0, Nat.mul_one] at hXe hZ
                rw [hPw_0, Nat.mul_one] at hAc
                rw [hXe, Nat.mul_comm Qh, Nat.mul_add_div hY0, Nat.div_eq_of_lt hAc, Nat.add_zero]; exact hZ, by
                rw [hPw_0, Nat.mul_one] at hXe
                rw [hPw_0, Nat.mul_one] at hAc
                rw [hXe, Nat.mul_comm Qh, Nat.mul_add_mod, Nat.mod_eq_of_lt hAc]; exact hA, hk⟩)
      · exact absurd (by decide) c1
    | succ c =>
      have hAl : A < hPw 17 := Nat.lt_of_le_of_lt (show A ≤ X by omega) hX1
      refine aX_iload dX11_divide__44 rfl ?_
      refine aX_if_lt (tgt := 171) dX11_divide__46 (by decide) (fun c2 => ?_) (fun c2 => ?_)
      · exact absurd c2 (nI_pos (by omega))
      · refine aX_lconst (v := lN 0) dX11_divide__49 rfl ?_
        refine aX_lstore (lv' := [(0, .ref 159), (1, .int (nI (z))), (2, .int (nI (x))), (3, .int (nI (y))), (4, .int (nI (t))), (5, .int (nI (c))), (6, .long (lN (0)))]) dX11_divide__50 (by decide) rfl ?_
        refine aX_ldc2 (v := lN 1000000000) dX11_divide__52 lkX11_253 ?_
        refine aX_lstore (lv' := [(0, .ref 159), (1, .int (nI (z))), (2, .int (nI (x))), (3, .int (nI (y))), (4, .int (nI (t))), (5, .int (nI (c))), (6, .long (lN (0))), (8, .long (lN (1000000000)))]) dX11_divide__55 (by decide) rfl ?_
        have hyb : Y * hPw c < hPw 17 := by
          have e1 : hPw 17 = hPw (t + 1) * hPw (16 - t) := by rw [← hPw_add, show t + 1 + (16 - t) = 17 by omega]
          have e2 : Y * hPw c < hPw (t + 1) * hPw c := Nat.mul_lt_mul_of_pos_right hYt (hPw_pos c)
          have e3 : hPw (t + 1) * hPw c ≤ hPw (t + 1) * hPw (16 - t) := Nat.mul_le_mul_left _ (hPw_le (by omega))
          omega
        refine ml_dvB (L := L) hR hz hx hy hzx hzy hxy (X := X) (A := A) (a := c) (by omega) hA (by have := hPw_le (show 17 ≤ 18 by omega); omega) hY1' hyb (fun L2 hk2 => ?_) _ 0 1000000000 L1 rfl (by decide) (by decide) (by rw [Nat.mul_zero]; exact Nat.zero_le _) (by rw [Nat.mul_assoc, ← hPw_s]; exact hAc) hKp_refl
        have hq0 : A / (Y * hPw c) < 1000000000 := Nat.div_lt_of_lt_mul (by rw [Nat.mul_assoc, ← hPw_s]; exact hAc)
        have hql := Nat.div_mul_le_self A (Y * hPw c)
        have hqd := Nat.div_add_mod A (Y * hPw c)
        have hqm := Nat.mod_lt A (show 0 < Y * hPw c from Nat.mul_pos hY0 (hPw_pos c))
        generalize hQq : A / (Y * hPw c) = qq at *
        refine aX_aload_n dX11_divide__135 rfl ?_
        refine aX_iload_n dX11_divide__136 rfl ?_
        refine aX_lload dX11_divide__137 rfl ?_
        refine aX_iload dX11_divide__139 rfl ?_
        refine cV (As := [.int (nI (y)), .long (lN (qq)), .int (nI (c))]) (st := []) dX11_divide__141 kX11_divide__282 s159 aEok0 rfl rfl (Nat.le_of_ble_eq_true rfl) (m_moved hR (by omega) (hD_hK hY1' (by omega) hk2) (by omega) (a := qq) (by omega) (by omega)) (fun ans' h' hq9 => ?_)
        obtain ⟨rfl, L3, rfl, g1, g2⟩ := hq9
        refine ⟨rfl, ?_⟩
        have hk3 := hKp_trans hk2 g2
        have hA3 := hD_hK hA (show x ≠ 11 by omega) hk3
        refine aX_aload_n dX11_divide__144 rfl ?_
        refine aX_iload_n dX11_divide__145 rfl ?_
        refine aX_bipush (v := nI 11) dX11_divide__146 (by decide) ?_
        refine cV (As := [.int (nI (x)), .int (nI (11))]) (st := []) dX11_divide__148 kX11_divide__268 s159 aEok0 rfl rfl (Nat.le_of_ble_eq_true rfl) (m_less hR (by omega) (by decide) hA3 g1 (by omega) (by rw [Nat.mul_comm]; exact hql)) (fun ans' h' hq9 => ?_)
        obtain ⟨rfl, L4, rfl, g3, g4⟩ := hq9
        refine ⟨rfl, ?_⟩
        have hkk : dqK x z L L4 := dqK_h (dqK_h hk hk3 (by omega)) g4 (by omega)
        refine aX_aload_n dX11_divide__151 rfl ?_
        refine aX_get dX11_divide__152 lfX11_113 s159 (f159_40 hR) ?_
        refine aX_bipush (v := nI 18) dX11_divide__155 (by decide) ?_
        refine aX_iload_n dX11_divide__157 rfl ?_
        refine nMul dX11_divide__158 ?_
        refine aX_iload dX11_divide__159 rfl ?_
        refine nAdd dX11_divide__161 ?_
        refine aX_lload dX11_divide__162 rfl ?_
        refine nLast dX11_divide__164 s191 (by first | omega | exact Nat.lt_of_le_of_lt (Nat.mod_le _ _) (by omega)) (by decide) ?_
        refine aX_iinc (v := (nI (c)) + (-1)) (lv' := [(0, .ref 159), (1, .int (nI (z))), (2, .int (nI (x))), (3, .int (nI (y))), (4, .int (nI (t))), (5, .int ((nI (c)) + (-1))), (6, .long (lN (qq))), (8, .long (lN (qq + 1)))]) dX11_divide__165 rfl rfl (by decide) rfl ?_
        refine aX_goto (tgt := 44) dX11_divide__168 (by decide) ?_
        refine aX_lv (lv' := [(0, .ref 159), (1, .int (nI (z))), (2, .int (nI (x))), (3, .int (nI (y))), (4, .int (nI (t))), (5, .int (jDn c))]) [0, 1, 2, 3, 4, 5] (by rw [← jDn_dec]; rfl) ?_
        exact ih c (by omega) c (by omega) rfl (A - Y * hPw c * qq) (Qh * 1000000000 + qq) _ (fun i hi => by rw [aU_n (by omega)]; exact g3 i hi) (fun i hi => by
          rw [dv_dg hq0]
          by_cases e : i = c
          · subst e; rw [aU_s, if_pos rfl]
          · rw [aU_n (by omega), if_neg e]; exact (g4 _ _ (by omega)).trans ((hk3 _ _ (by omega)).trans (hZ i hi))) (fun i hi => by rw [aU_n (by omega)]; exact (g4 _ _ (by omega)).trans ((hk3 _ _ (by omega)).trans (hY1' i hi))) (by omega) (by
          rw [hXe, hPw_s, Nat.add_mul, Nat.add_mul, Nat.mul_comm (Y * hPw c) qq] 
          have e1 : Qh * (hPw c * 1000000000) * Y = Qh * 1000000000 * hPw c * Y := by rw [Nat.mul_comm (hPw c), ← Nat.mul_assoc Qh]
          have e2 : qq * hPw c * Y = qq * (Y * hPw c) := by rw [Nat.mul_assoc, Nat.mul_comm (hPw c)]
          rw [e1, e2]
          omega) (fun q j g => by rw [aU_n (by omega)]; exact hkk q j g)
set_option maxHeartbeats 1000000 in
theorem ml_dvT {I : Nat → Nat → Int32} {L : Nat → Nat → Int64} {R : Nat → Nat → Option Nat} (hR : aRf R) {z x y : Nat} (hz : z < 11) (hx : x < 11) (hy : y < 11) (hzx : z ≠ x) (hzy : z ≠ y) (hxy : x ≠ y) {X Y : Nat} (hX : hD L x X) (hY : hD L y Y) (hX1 : X < hPw 17) (hY1 : Y < hPw 17) (hY0 : 0 < Y) {L1 : Nat → Nat → Int64} (hZ0 : hD L1 z 0) (hk : hKp z L L1) : ∀ (k9 c : Nat), c ≤ 18 → c = k9 → Y < hPw c → aX mX11_divide_ aE0 (sh0, I, L1, R) 9 [(0, .ref 159), (1, .int (nI (z))), (2, .int (nI (x))), (3, .int (nI (y))), (4, .int (jDn c))] [] 0 0 (fun ans h' => ans = none ∧ ∃ L', h' = (sh0, I, L', R) ∧ hD L' z (X / Y) ∧ hD L' x (X % Y) ∧ dqK x z L L') := by
  intro k9
  induction k9 using Nat.strongRecOn with
  | _ k9 ih =>
    intro c hi hk9  hYc
    cases c with
    | zero =>
      exact absurd hYc (by rw [hPw_0]; omega)
    | succ c =>
      have hdl := hDg_lt Y c
      refine aX_iload dX11_divide__9 rfl ?_
      refine aX_if_lt (tgt := 37) dX11_divide__11 (by decide) (fun c2 => ?_) (fun c2 => ?_)
      · exact absurd c2 (nI_pos (by omega))
      · refine aX_aload_n dX11_divide__14 rfl ?_
        refine aX_get dX11_divide__15 lfX11_113 s159 (f159_40 hR) ?_
        refine aX_bipush (v := nI 18) dX11_divide__18 (by decide) ?_
        refine aX_iload_n dX11_divide__20 rfl ?_
        refine nMul dX11_divide__21 ?_
        refine aX_iload dX11_divide__22 rfl ?_
        refine nAdd dX11_divide__24 ?_
        refine nLald (v := lN (hDg Y c)) dX11_divide__25 s191 (by first | omega | exact Nat.lt_of_le_of_lt (Nat.mod_le _ _) (by omega)) (by decide) ((hD_hK hY (Ne.symm hzy) hk) c (by omega)) ?_
        refine aX_lconst (v := lN 0) dX11_divide__26 rfl ?_
        refine aX_lcmp dX11_divide__27 ?_
        refine kIf_ne (tgt := 37) dX11_divide__28 (by decide) (by first | omega | exact Nat.lt_of_le_of_lt (Nat.mod_le _ _) (by omega)) (by first | omega | exact Nat.lt_of_le_of_lt (Nat.mod_le _ _) (by omega)) (fun c3 => ?_) (fun c3 => ?_)
        · have hdz : hDg Y c ≠ 0 := c3
          have hc16 : c ≤ 16 := Nat.le_of_not_lt (fun z => hdz (hDg_hi (Nat.lt_of_lt_of_le hY1 (hPw_le (show 17 ≤ c by omega)))))
          have hYb : hPw c ≤ Y := Nat.le_of_not_lt (fun z => hdz (hDg_hi z))
          refine aX_bipush (v := nI 16) dX11_divide__37 (by decide) ?_
          refine aX_iload dX11_divide__39 rfl ?_
          refine nSub dX11_divide__41 (by first | omega | exact Nat.lt_of_le_of_lt (Nat.mod_le _ _) (by omega)) ?_
          refine aX_istore (lv' := [(0, .ref 159), (1, .int (nI (z))), (2, .int (nI (x))), (3, .int (nI (y))), (4, .int (nI (c))), (5, .int (nI (16 - c)))]) dX11_divide__42 (by decide) rfl ?_
          refine aX_lv (lv' := [(0, .ref 159), (1, .int (nI (z))), (2, .int (nI (x))), (3, .int (nI (y))), (4, .int (nI (c))), (5, .int (jDn (17 - c)))]) [0, 1, 2, 3, 4, 5] (by rw [show 17 - c = 16 - c + 1 by omega]; rfl) ?_
          exact ml_dvM hR hz hx hy hzx hzy hxy hX hY hX1 hY1 hY0 hc16 hYc _ (17 - c) (Nat.le_refl _) rfl X 0 L1 (hD_hK hX (Ne.symm hzx) hk) (by rw [Nat.zero_mul]; exact hZ0) (hD_hK hY (Ne.symm hzy) hk) (by
            have e1 : hPw 17 = hPw c * hPw (17 - c) := by rw [← hPw_add, show c + (17 - c) = 17 by omega]
            have e2 : hPw c * hPw (17 - c) ≤ Y * hPw (17 - c) := Nat.mul_le_mul_right _ hYb
            omega) (by rw [Nat.zero_mul, Nat.zero_mul, Nat.zero_add]) (fun q j g => hk q j (by omega))
        · have hdz : hDg Y c = 0 := c3
          refine aX_iinc (v := (nI (c)) + (-1)) (lv' := [(0, .ref 159), (1, .int (nI (z))), (2, .int (nI (x))), (3, .int (nI (y))), (4, .int ((nI (c)) + (-1)))]) dX11_divide__31 rfl rfl (by decide) rfl ?_
          refine aX_goto (tgt := 9) dX11_divide__34 (by decide) ?_
          refine aX_lv (lv' := [(0, .ref 159), (1, .int (nI (z))), (2, .int (nI (x))), (3, .int (nI (y))), (4, .int (jDn c))]) [0, 1, 2, 3, 4] (by rw [← jDn_dec]; rfl) ?_
          exact ih c (by omega) c (by omega) rfl (Nat.lt_of_not_le (fun z => by
            have h1 := hDg_top hYc
            have h2 : 0 < Y / hPw c := Nat.div_pos z (hPw_pos c)
            omega))
set_option maxHeartbeats 1000000 in
theorem m_divide3 {I : Nat → Nat → Int32} {L : Nat → Nat → Int64} {R : Nat → Nat → Option Nat} (hR : aRf R) {z x y : Nat} (hz : z < 11) (hx : x < 11) (hy : y < 11) (hzx : z ≠ x) (hzy : z ≠ y) (hxy : x ≠ y) {X Y : Nat} (hX : hD L x X) (hY : hD L y Y) (hX1 : X < hPw 17) (hY1 : Y < hPw 17) (hY0 : 0 < Y) : aM mX11_divide_ [.ref 159, .int (nI z), .int (nI x), .int (nI y)] (sh0, I, L, R) (fun ans h' => ans = none ∧ ∃ L', h' = (sh0, I, L', R) ∧ hD L' z (X / Y) ∧ hD L' x (X % Y) ∧ dqK x z L L') := by
  refine aM_of plX11_divide_ (Nat.le_of_ble_eq_true rfl) ?_
  refine aX_aload_n dX11_divide__0 rfl ?_
  refine aX_iload_n dX11_divide__1 rfl ?_
  refine cV (As := [.int (nI (z))]) (st := []) dX11_divide__2 kX11_divide__279 s159 aEok0 rfl rfl (Nat.le_of_ble_eq_true rfl) (m_zero hR (by omega)) (fun ans' h' hq9 => ?_)
  obtain ⟨rfl, L1, rfl, g1, g2⟩ := hq9
  refine ⟨rfl, ?_⟩
  refine aX_bipush (v := nI 17) dX11_divide__5 (by decide) ?_
  refine aX_istore (lv' := [(0, .ref 159), (1, .int (nI (z))), (2, .int (nI (x))), (3, .int (nI (y))), (4, .int (nI (17)))]) dX11_divide__7 (by decide) rfl ?_
  refine aX_lv (lv' := [(0, .ref 159), (1, .int (nI z)), (2, .int (nI x)), (3, .int (nI y)), (4, .int (jDn 18))]) [0, 1, 2, 3, 4] rfl ?_
  exact ml_dvT hR hz hx hy hzx hzy hxy hX hY hX1 hY1 hY0 g1 g2 _ 18 (by omega) rfl (Nat.lt_of_lt_of_le hY1 (hPw_le (by decide)))
