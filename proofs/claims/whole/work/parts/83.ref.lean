/-! THE REFERENCE: its long numbers -/
def hPw (i : Nat) : Nat := 1000000000 ^ i
theorem hPw_pos (i : Nat) : 0 < hPw i := Nat.pow_pos (by decide)
theorem hPw_0 : hPw 0 = 1 := rfl
theorem hPw_s (i : Nat) : hPw (i + 1) = hPw i * 1000000000 := Nat.pow_succ ..
theorem hPw_add (i j : Nat) : hPw (i + j) = hPw i * hPw j := Nat.pow_add ..
theorem hPw_le {i j : Nat} (h : i ≤ j) : hPw i ≤ hPw j := Nat.pow_le_pow_right (by decide) h
def hDg (x i : Nat) : Nat := x / hPw i % 1000000000
theorem hDg_lt (x i : Nat) : hDg x i < 1000000000 := Nat.mod_lt _ (by decide)
theorem hDg_low (x i : Nat) : x % hPw (i + 1) = x % hPw i + hDg x i * hPw i := by
  rw [hPw_s, Nat.mod_mul, Nat.mul_comm (hPw i)]; rfl
theorem hDg_high (x i : Nat) : x / hPw i = x / hPw (i + 1) * 1000000000 + hDg x i := by
  have h1 : x / hPw (i + 1) = x / hPw i / 1000000000 := by rw [hPw_s, Nat.div_div_eq_div_mul]
  rw [h1]; unfold hDg; omega
theorem hDg_mod {r s i : Nat} (h : r % hPw (i + 1) = s % hPw (i + 1)) : hDg r i = hDg s i := by
  unfold hDg
  rw [← Nat.mod_mul_right_div_self, ← Nat.mod_mul_right_div_self, ← hPw_s, h]
theorem hCarry {s s' e r i : Nat} (hs : s' = s + e * hPw i) (hr : r % hPw (i + 1) = s' % hPw (i + 1)) : s' / hPw (i + 1) = (s / hPw i + e) / 1000000000 ∧ hDg r i = (s / hPw i + e) % 1000000000 := by
  have h1 : s' / hPw i = s / hPw i + e := by rw [hs, Nat.add_mul_div_right _ _ (hPw_pos i)]
  constructor
  · rw [hPw_s, ← Nat.div_div_eq_div_mul, h1]
  · rw [hDg_mod hr]
    unfold hDg
    rw [h1]
theorem hDg_hi {n i : Nat} (h1 : n < hPw i) : hDg n i = 0 := by
  unfold hDg
  rw [Nat.div_eq_of_lt h1]
theorem hDg_ext {x y : Nat} : ∀ n, (∀ i, i < n → hDg x i = hDg y i) → x % hPw n = y % hPw n
  | 0, _ => by rw [hPw_0, Nat.mod_one, Nat.mod_one]
  | n + 1, h => by rw [hDg_low, hDg_low, hDg_ext n (fun i hi => h i (by omega)), h n (by omega)]
theorem hDg_00 (i : Nat) : hDg 0 i = 0 := by unfold hDg; rw [Nat.zero_div]
theorem hDg_0 (x : Nat) : hDg x 0 = x % 1000000000 := by unfold hDg; rw [hPw_0, Nat.div_one]
theorem stp_s {x a b : Nat} (i : Nat) : (x % hPw (i + 1)) * a + b = ((x % hPw i) * a + b) + (hDg x i * a) * hPw i := by
  rw [hDg_low, Nat.add_mul, Nat.mul_right_comm]; omega
theorem stp_r {x a b : Nat} (i : Nat) : (x * a + b) % hPw (i + 1) = ((x % hPw (i + 1)) * a + b) % hPw (i + 1) := by
  rw [Nat.add_mod, ← mod_mul' x a, ← Nat.add_mod]
theorem stp_b {x a b : Nat} (i : Nat) : ((x % hPw i) * a + b) / hPw i ≤ a + b := by
  have hp := hPw_pos i
  have h1 := Nat.mod_lt x hp
  refine Nat.le_of_lt_succ (Nat.div_lt_of_lt_mul ?_)
  have h2 : x % hPw i * a ≤ hPw i * a := Nat.mul_le_mul_right a (Nat.le_of_lt h1)
  have h3 : b ≤ hPw i * b := Nat.le_mul_of_pos_left b hp
  rw [Nat.succ_eq_add_one, Nat.mul_add, Nat.mul_add]
  omega
theorem adl_s {x y a : Nat} (i : Nat) : x % hPw (i + 1) + (y % hPw (i + 1)) * a = (x % hPw i + (y % hPw i) * a) + (hDg x i + hDg y i * a) * hPw i := by
  rw [hDg_low, hDg_low, Nat.add_mul, Nat.add_mul, Nat.mul_right_comm]; omega
theorem adl_r {x y a : Nat} (i : Nat) : (x + y * a) % hPw (i + 1) = (x % hPw (i + 1) + (y % hPw (i + 1)) * a) % hPw (i + 1) := by
  rw [Nat.add_mod (x % hPw (i + 1)), Nat.mod_mod, mod_mul', ← Nat.add_mod]
theorem adl_b {x y a : Nat} (i : Nat) : (x % hPw i + (y % hPw i) * a) / hPw i ≤ 1 + a := by
  have hp := hPw_pos i
  have h1 := Nat.mod_lt x hp
  have h2 := Nat.mod_lt y hp
  refine Nat.le_of_lt_succ (Nat.div_lt_of_lt_mul ?_)
  have h3 : y % hPw i * a ≤ hPw i * a := Nat.mul_le_mul_right a (Nat.le_of_lt h2)
  rw [Nat.succ_eq_add_one, Nat.mul_add, Nat.mul_add]
  omega
theorem hDg_shift (y b i : Nat) : hDg (y * hPw b) i = if i < b then 0 else hDg y (i - b) := by
  unfold hDg
  by_cases h : i < b
  · rw [if_pos h]
    obtain ⟨d, rfl⟩ : ∃ d, b = i + (d + 1) := ⟨b - i - 1, by omega⟩
    rw [hPw_add, hPw_s, ← Nat.mul_assoc, Nat.mul_right_comm, Nat.mul_div_cancel _ (hPw_pos i), ← Nat.mul_assoc, Nat.mul_mod_left]
  · rw [if_neg h]
    obtain ⟨d, rfl⟩ : ∃ d, i = d + b := ⟨i - b, by omega⟩
    rw [hPw_add, Nat.mul_div_mul_right _ _ (hPw_pos b), Nat.add_sub_cancel]
def lsC (x y i : Nat) : Nat := if x % hPw i < y % hPw i then 1 else 0
theorem lsC_0 (x y : Nat) : lsC x y 0 = 0 := by unfold lsC; rw [hPw_0, Nat.mod_one, Nat.mod_one]; rfl
theorem ls_step {x y : Nat} (hyx : y ≤ x) (i : Nat) : (((hDg x i : Int) - hDg y i - lsC x y i < 0) → lsC x y (i + 1) = 1 ∧ (hDg (x - y) i : Int) = (hDg x i : Int) - hDg y i - lsC x y i + 1000000000) ∧ ((0 ≤ (hDg x i : Int) - hDg y i - lsC x y i) → lsC x y (i + 1) = 0 ∧ (hDg (x - y) i : Int) = (hDg x i : Int) - hDg y i - lsC x y i) := by
  have hp := hPw_pos i
  have hx := Nat.mod_lt x hp
  have hy := Nat.mod_lt y hp
  have lx := hDg_low x i
  have ly := hDg_low y i
  have dx := hDg_lt x i
  have dy := hDg_lt y i
  have ex := hDg_high x i
  have ey := hDg_high y i
  have ax := Nat.div_add_mod x (hPw i)
  have ay := Nat.div_add_mod y (hPw i)
  have key : (x - y) / hPw i = x / hPw i - y / hPw i - lsC x y i := by
    have hq : y / hPw i ≤ x / hPw i := Nat.div_le_div_right hyx
    unfold lsC
    by_cases g : x % hPw i < y % hPw i
    · rw [if_pos g]
      have hq2 : y / hPw i < x / hPw i := by
        refine Nat.lt_of_not_le (fun z => ?_)
        have : hPw i * (x / hPw i) = hPw i * (y / hPw i) := by rw [Nat.le_antisymm z hq]
        omega
      obtain ⟨d, hd⟩ : ∃ d, x / hPw i = y / hPw i + 1 + d := ⟨x / hPw i - y / hPw i - 1, by omega⟩
      have h1 : hPw i * (x / hPw i) = hPw i * (y / hPw i) + hPw i + hPw i * d := by rw [hd, Nat.mul_add, Nat.mul_add, Nat.mul_one]
      have h2 : x - y = (hPw i + x % hPw i - y % hPw i) + hPw i * d := by omega
      rw [h2, Nat.add_mul_div_left _ _ hp, Nat.div_eq_of_lt (by omega)]
      omega
    · rw [if_neg g]
      obtain ⟨d, hd⟩ : ∃ d, x / hPw i = y / hPw i + d := ⟨x / hPw i - y / hPw i, by omega⟩
      have h1 : hPw i * (x / hPw i) = hPw i * (y / hPw i) + hPw i * d := by rw [hd, Nat.mul_add]
      have h2 : x - y = (x % hPw i - y % hPw i) + hPw i * d := by omega
      rw [h2, Nat.add_mul_div_left _ _ hp, Nat.div_eq_of_lt (by omega)]
      omega
  have hc1 : lsC x y i ≤ 1 := by unfold lsC; split <;> omega
  have hnn : y / hPw i + lsC x y i ≤ x / hPw i := by
    have hq : y / hPw i ≤ x / hPw i := Nat.div_le_div_right hyx
    unfold lsC
    by_cases g : x % hPw i < y % hPw i
    · rw [if_pos g]
      refine Nat.lt_of_not_le (fun z => ?_)
      have : hPw i * (x / hPw i) = hPw i * (y / hPw i) := by rw [Nat.le_antisymm z hq]
      omega
    · rw [if_neg g]; omega
  have hdg : hDg (x - y) i = (x / hPw i - y / hPw i - lsC x y i) % 1000000000 := by unfold hDg; rw [key]
  have hcc : ∀ (a b : Nat), a < b → a * hPw i + hPw i ≤ b * hPw i := fun a b h => by
    have := Nat.mul_le_mul_right (hPw i) (show a + 1 ≤ b by omega)
    rw [Nat.add_mul, Nat.one_mul] at this; exact this
  have hnc : lsC x y (i + 1) = if x % hPw i + hDg x i * hPw i < y % hPw i + hDg y i * hPw i then 1 else 0 := by unfold lsC; rw [lx, ly]
  have hci : lsC x y i = if x % hPw i < y % hPw i then 1 else 0 := rfl
  constructor
  · intro h
    constructor
    · rw [hnc]
      refine if_pos ?_
      by_cases g : hDg x i < hDg y i
      · have := hcc _ _ g; omega
      · have e : hDg x i = hDg y i := by omega
        rw [e]
        have : x % hPw i < y % hPw i := by
          refine Nat.lt_of_not_le (fun z => ?_)
          rw [if_neg (by omega)] at hci; omega
        omega
    · rw [hdg, ex, ey]; omega
  · intro h
    constructor
    · rw [hnc]
      refine if_neg ?_
      by_cases g : hDg y i < hDg x i
      · have := hcc _ _ g; omega
      · have e : hDg x i = hDg y i := by omega
        rw [e]
        have : ¬ x % hPw i < y % hPw i := fun z => by rw [if_pos z] at hci; omega
        omega
    · rw [hdg, ex, ey]; omega
def hD (L : Nat → Nat → Int64) (x X : Nat) : Prop := ∀ i, i < 18 → L 191 (18 * x + i) = lN (hDg X i)
def hKp (x : Nat) (L L' : Nat → Nat → Int64) : Prop := ∀ q j, ¬ (q = 191 ∧ 18 * x ≤ j ∧ j < 18 * x + 18) → L' q j = L q j
theorem hKp_refl {x : Nat} {L : Nat → Nat → Int64} : hKp x L L := fun _ _ _ => rfl
theorem hKp_set {x i : Nat} {v : Int64} {L L1 : Nat → Nat → Int64} (h : hKp x L L1) (hi : i < 18) : hKp x L (aU L1 191 (18 * x + i) v) := fun q j g => by rw [aU_n (by omega)]; exact h q j g
theorem hD_hK {x y Y : Nat} {L L' : Nat → Nat → Int64} (hy : hD L y Y) (hne : y ≠ x) (h : hKp x L L') : hD L' y Y := fun i hi => (h _ _ (by omega)).trans (hy i hi)
theorem hKp_trans {x : Nat} {L L1 L2 : Nat → Nat → Int64} (h : hKp x L L1) (k : hKp x L1 L2) : hKp x L L2 := fun q j g => (k q j g).trans (h q j g)
/-- digits below i of the one, from i on of the other -/
def hMix (L : Nat → Nat → Int64) (x T X i : Nat) : Prop := (∀ j, j < i → L 191 (18 * x + j) = lN (hDg T j)) ∧ ∀ j, i ≤ j → j < 18 → L 191 (18 * x + j) = lN (hDg X j)
theorem hMix_set {L : Nat → Nat → Int64} {x T X i v : Nat} (h : hMix L x T X i) (hv : v = hDg T i) : hMix (aU L 191 (18 * x + i) (lN v)) x T X (i + 1) := ⟨fun j hj => by
  by_cases e : j = i
  · subst e; rw [aU_s, hv]
  · rw [aU_n (by omega)]; exact h.1 j (by omega), fun j h1 h2 => by rw [aU_n (by omega)]; exact h.2 j (by omega) h2⟩
set_option maxHeartbeats 1000000 in
theorem ml_zero {I : Nat → Nat → Int32} {L : Nat → Nat → Int64} {R : Nat → Nat → Option Nat} (hR : aRf R) {x : Nat} (hx : x < 12) : ∀ (k9 i : Nat), i ≤ 18 → 18 - i = k9 → ∀ (L1 : Nat → Nat → Int64), (∀ j, j < i → L1 191 (18 * x + j) = lN (hDg 0 j)) → hKp x L L1 → aX mX11_zero aE0 (sh0, I, L1, R) 2 [(0, .ref 159), (1, .int (nI (x))), (2, .int (nI (i)))] [] 0 0 (fun ans h' => ans = none ∧ ∃ L', h' = (sh0, I, L', R) ∧ hD L' x 0 ∧ hKp x L L') := by
  intro k9
  induction k9 using Nat.strongRecOn with
  | _ k9 ih =>
    intro i hi hk9 L1  hd hk
    refine aX_iload_n dX11_zero_2 rfl ?_
    refine aX_bipush (v := nI 18) dX11_zero_3 (by decide) ?_
    refine nGe (tgt := 26) dX11_zero_5 (by decide) (by first | omega | exact Nat.lt_of_le_of_lt (Nat.mod_le _ _) (by omega)) (by first | omega | exact Nat.lt_of_le_of_lt (Nat.mod_le _ _) (by omega)) (fun c1 => ?_) (fun c1 => ?_)
    · exact rV dX11_zero_26 rfl (⟨rfl, L1, rfl, fun j hj => hd j (by omega), hk⟩)
    · refine aX_aload_n dX11_zero_8 rfl ?_
      refine aX_get dX11_zero_9 lfX11_113 s159 (f159_40 hR) ?_
      refine aX_bipush (v := nI 18) dX11_zero_12 (by decide) ?_
      refine aX_iload_n dX11_zero_14 rfl ?_
      refine nMul dX11_zero_15 ?_
      refine aX_iload_n dX11_zero_16 rfl ?_
      refine nAdd dX11_zero_17 ?_
      refine aX_lconst (v := lN 0) dX11_zero_18 rfl ?_
      refine nLast dX11_zero_19 s191 (by first | omega | exact Nat.lt_of_le_of_lt (Nat.mod_le _ _) (by omega)) (by decide) ?_
      refine nInc (lv' := [(0, .ref 159), (1, .int (nI (x))), (2, .int (nI (i + 1)))]) dX11_zero_20 rfl rfl (by decide) rfl ?_
      refine aX_goto (tgt := 2) dX11_zero_23 (by decide) ?_
      exact ih (18 - (i + 1)) (by omega) (i + 1) (by omega) rfl _ (fun j hj => by
        by_cases e : j = i
        · subst e; rw [aU_s, hDg_00]
        · rw [aU_n (by omega)]; exact hd j (by omega)) (hKp_set hk (by omega))
set_option maxHeartbeats 1000000 in
theorem m_zero {I : Nat → Nat → Int32} {L : Nat → Nat → Int64} {R : Nat → Nat → Option Nat} (hR : aRf R) {x : Nat} (hx : x < 12) : aM mX11_zero [.ref 159, .int (nI x)] (sh0, I, L, R) (fun ans h' => ans = none ∧ ∃ L', h' = (sh0, I, L', R) ∧ hD L' x 0 ∧ hKp x L L') := by
  refine aM_of plX11_zero (Nat.le_of_ble_eq_true rfl) ?_
  refine aX_iconst (v := nI 0) dX11_zero_0 (by decide) ?_
  refine aX_istore_n (lv' := [(0, .ref 159), (1, .int (nI (x))), (2, .int (nI (0)))]) dX11_zero_1 (by decide) rfl ?_
  exact ml_zero hR hx _ 0 (by omega) rfl L (fun j h => by omega) hKp_refl
set_option maxHeartbeats 1000000 in
theorem ml_copy {I : Nat → Nat → Int32} {L : Nat → Nat → Int64} {R : Nat → Nat → Option Nat} (hR : aRf R) {x : Nat} (hx : x < 12) {y : Nat} (hy : y < 12) {Y : Nat} (hY : hD L y Y) (hne : x ≠ y) : ∀ (k9 i : Nat), i ≤ 18 → 18 - i = k9 → ∀ (L1 : Nat → Nat → Int64), (∀ j, j < i → L1 191 (18 * x + j) = lN (hDg Y j)) → hKp x L L1 → aX mX11_copy aE0 (sh0, I, L1, R) 2 [(0, .ref 159), (1, .int (nI (x))), (2, .int (nI (y))), (3, .int (nI (i)))] [] 0 0 (fun ans h' => ans = none ∧ ∃ L', h' = (sh0, I, L', R) ∧ hD L' x Y ∧ hKp x L L') := by
  intro k9
  induction k9 using Nat.strongRecOn with
  | _ k9 ih =>
    intro i hi hk9 L1  hd hk
    refine aX_iload_n dX11_copy_2 rfl ?_
    refine aX_bipush (v := nI 18) dX11_copy_3 (by decide) ?_
    refine nGe (tgt := 36) dX11_copy_5 (by decide) (by first | omega | exact Nat.lt_of_le_of_lt (Nat.mod_le _ _) (by omega)) (by first | omega | exact Nat.lt_of_le_of_lt (Nat.mod_le _ _) (by omega)) (fun c1 => ?_) (fun c1 => ?_)
    · exact rV dX11_copy_36 rfl (⟨rfl, L1, rfl, fun j hj => hd j (by omega), hk⟩)
    · refine aX_aload_n dX11_copy_8 rfl ?_
      refine aX_get dX11_copy_9 lfX11_113 s159 (f159_40 hR) ?_
      refine aX_bipush (v := nI 18) dX11_copy_12 (by decide) ?_
      refine aX_iload_n dX11_copy_14 rfl ?_
      refine nMul dX11_copy_15 ?_
      refine aX_iload_n dX11_copy_16 rfl ?_
      refine nAdd dX11_copy_17 ?_
      refine aX_aload_n dX11_copy_18 rfl ?_
      refine aX_get dX11_copy_19 lfX11_113 s159 (f159_40 hR) ?_
      refine aX_bipush (v := nI 18) dX11_copy_22 (by decide) ?_
      refine aX_iload_n dX11_copy_24 rfl ?_
      refine nMul dX11_copy_25 ?_
      refine aX_iload_n dX11_copy_26 rfl ?_
      refine nAdd dX11_copy_27 ?_
      refine nLald (v := lN (hDg Y i)) dX11_copy_28 s191 (by first | omega | exact Nat.lt_of_le_of_lt (Nat.mod_le _ _) (by omega)) (by decide) ((hD_hK hY (Ne.symm hne) hk) i (by omega)) ?_
      refine nLast dX11_copy_29 s191 (by first | omega | exact Nat.lt_of_le_of_lt (Nat.mod_le _ _) (by omega)) (by decide) ?_
      refine nInc (lv' := [(0, .ref 159), (1, .int (nI (x))), (2, .int (nI (y))), (3, .int (nI (i + 1)))]) dX11_copy_30 rfl rfl (by decide) rfl ?_
      refine aX_goto (tgt := 2) dX11_copy_33 (by decide) ?_
      exact ih (18 - (i + 1)) (by omega) (i + 1) (by omega) rfl _ (fun j hj => by
        by_cases e : j = i
        · subst e; rw [aU_s]
        · rw [aU_n (by omega)]; exact hd j (by omega)) (hKp_set hk (by omega))
set_option maxHeartbeats 1000000 in
theorem m_copy {I : Nat → Nat → Int32} {L : Nat → Nat → Int64} {R : Nat → Nat → Option Nat} (hR : aRf R) {x : Nat} (hx : x < 12) {y : Nat} (hy : y < 12) {Y : Nat} (hY : hD L y Y) (hne : x ≠ y) : aM mX11_copy [.ref 159, .int (nI x), .int (nI y)] (sh0, I, L, R) (fun ans h' => ans = none ∧ ∃ L', h' = (sh0, I, L', R) ∧ hD L' x Y ∧ hKp x L L') := by
  refine aM_of plX11_copy (Nat.le_of_ble_eq_true rfl) ?_
  refine aX_iconst (v := nI 0) dX11_copy_0 (by decide) ?_
  refine aX_istore_n (lv' := [(0, .ref 159), (1, .int (nI (x))), (2, .int (nI (y))), (3, .int (nI (0)))]) dX11_copy_1 (by decide) rfl ?_
  exact ml_copy hR hx hy hY hne _ 0 (by omega) rfl L (fun j h => by omega) hKp_refl
set_option maxHeartbeats 1000000 in
theorem ml_step {I : Nat → Nat → Int32} {L : Nat → Nat → Int64} {R : Nat → Nat → Option Nat} (hR : aRf R) {x : Nat} (hx : x < 12) {X : Nat} (hX : hD L x X) {a b : Nat} (ha : a < 2147483648) (hb : b < 2147483648) : ∀ (k9 i : Nat), i ≤ 18 → 18 - i = k9 → ∀ (c : Nat) (L1 : Nat → Nat → Int64), c = ((X % hPw i) * a + b) / hPw i → hMix L1 x (X * a + b) X i → hKp x L L1 → aX mX11_step aE0 (sh0, I, L1, R) 7 [(0, .ref 159), (1, .int (nI (x))), (2, .long (lN (a))), (4, .long (lN (b))), (6, .long (lN (c))), (8, .int (nI (i)))] [] 0 0 (fun ans h' => ans = none ∧ ∃ L', h' = (sh0, I, L', R) ∧ hD L' x (X * a + b) ∧ hKp x L L') := by
  intro k9
  induction k9 using Nat.strongRecOn with
  | _ k9 ih =>
    intro i hi hk9 c  L1  hc hd hk
    have hcb : c ≤ a + b := by rw [hc]; exact stp_b i
    have hdl := hDg_lt X i
    have hml : hDg X i * a ≤ 1000000000 * 2147483648 := Nat.mul_le_mul (by omega) (by omega)
    refine aX_iload dX11_step_7 rfl ?_
    refine aX_bipush (v := nI 18) dX11_step_9 (by decide) ?_
    refine nGe (tgt := 65) dX11_step_11 (by decide) (by first | omega | exact Nat.lt_of_le_of_lt (Nat.mod_le _ _) (by omega)) (by first | omega | exact Nat.lt_of_le_of_lt (Nat.mod_le _ _) (by omega)) (fun c1 => ?_) (fun c1 => ?_)
    · exact rV dX11_step_65 rfl (⟨rfl, L1, rfl, fun j hj => hd.1 j (by omega), hk⟩)
    · refine aX_aload_n dX11_step_14 rfl ?_
      refine aX_get dX11_step_15 lfX11_113 s159 (f159_40 hR) ?_
      refine aX_bipush (v := nI 18) dX11_step_18 (by decide) ?_
      refine aX_iload_n dX11_step_20 rfl ?_
      refine nMul dX11_step_21 ?_
      refine aX_iload dX11_step_22 rfl ?_
      refine nAdd dX11_step_24 ?_
      refine nLald (v := lN (hDg X i)) dX11_step_25 s191 (by first | omega | exact Nat.lt_of_le_of_lt (Nat.mod_le _ _) (by omega)) (by decide) (hd.2 i (Nat.le_refl _) (by omega)) ?_
      refine aX_lload_n dX11_step_26 rfl ?_
      refine kMul dX11_step_27 ?_
      refine aX_lload dX11_step_28 rfl ?_
      refine kAdd dX11_step_30 ?_
      refine aX_lstore (lv' := [(0, .ref 159), (1, .int (nI (x))), (2, .long (lN (a))), (4, .long (lN (b))), (6, .long (lN (c))), (8, .int (nI (i))), (9, .long (lN (((hDg X i) * a) + c)))]) dX11_step_31 (by decide) rfl ?_
      refine aX_aload_n dX11_step_33 rfl ?_
      refine aX_get dX11_step_34 lfX11_113 s159 (f159_40 hR) ?_
      refine aX_bipush (v := nI 18) dX11_step_37 (by decide) ?_
      refine aX_iload_n dX11_step_39 rfl ?_
      refine nMul dX11_step_40 ?_
      refine aX_iload dX11_step_41 rfl ?_
      refine nAdd dX11_step_43 ?_
      refine aX_lload dX11_step_44 rfl ?_
      refine aX_ldc2 (v := lN 1000000000) dX11_step_46 lkX11_253 ?_
      refine kRem dX11_step_49 (by first | omega | exact Nat.lt_of_le_of_lt (Nat.mod_le _ _) (by omega)) (by first | omega | exact Nat.lt_of_le_of_lt (Nat.mod_le _ _) (by omega)) (by first | omega | exact Nat.lt_of_le_of_lt (Nat.mod_le _ _) (by omega)) ?_
      refine nLast dX11_step_50 s191 (by first | omega | exact Nat.lt_of_le_of_lt (Nat.mod_le _ _) (by omega)) (by decide) ?_
      refine aX_lload dX11_step_51 rfl ?_
      refine aX_ldc2 (v := lN 1000000000) dX11_step_53 lkX11_253 ?_
      refine kDiv dX11_step_56 (by first | omega | exact Nat.lt_of_le_of_lt (Nat.mod_le _ _) (by omega)) (by first | omega | exact Nat.lt_of_le_of_lt (Nat.mod_le _ _) (by omega)) (by first | omega | exact Nat.lt_of_le_of_lt (Nat.mod_le _ _) (by omega)) ?_
      refine aX_lstore (lv' := [(0, .ref 159), (1, .int (nI (x))), (2, .long (lN (a))), (4, .long (lN (b))), (6, .long (lN ((((hDg X i) * a) + c) / 1000000000))), (8, .int (nI (i))), (9, .long (lN (((hDg X i) * a) + c)))]) dX11_step_57 (by decide) rfl ?_
      refine nInc (lv' := [(0, .ref 159), (1, .int (nI (x))), (2, .long (lN (a))), (4, .long (lN (b))), (6, .long (lN ((((hDg X i) * a) + c) / 1000000000))), (8, .int (nI (i + 1))), (9, .long (lN (((hDg X i) * a) + c)))]) dX11_step_59 rfl rfl (by decide) rfl ?_
      refine aX_goto (tgt := 7) dX11_step_62 (by decide) ?_
      refine aX_lv (lv' := [(0, .ref 159), (1, .int (nI (x))), (2, .long (lN (a))), (4, .long (lN (b))), (6, .long (lN ((((hDg X i) * a) + c) / 1000000000))), (8, .int (nI (i + 1)))]) [0, 1, 2, 3, 4, 5] rfl ?_
      have hca := hCarry (stp_s (x := X) (a := a) (b := b) i) (stp_r i)
      rw [← hc, Nat.add_comm c] at hca
      exact ih (18 - (i + 1)) (by omega) (i + 1) (by omega) rfl _ _ hca.1.symm (hMix_set hd hca.2.symm) (hKp_set hk (by omega))
set_option maxHeartbeats 1000000 in
theorem m_step {I : Nat → Nat → Int32} {L : Nat → Nat → Int64} {R : Nat → Nat → Option Nat} (hR : aRf R) {x : Nat} (hx : x < 12) {X : Nat} (hX : hD L x X) {a b : Nat} (ha : a < 2147483648) (hb : b < 2147483648) : aM mX11_step [.ref 159, .int (nI x), .long (lN a), .long (lN b)] (sh0, I, L, R) (fun ans h' => ans = none ∧ ∃ L', h' = (sh0, I, L', R) ∧ hD L' x (X * a + b) ∧ hKp x L L') := by
  refine aM_of plX11_step (Nat.le_of_ble_eq_true rfl) ?_
  refine aX_lload dX11_step_0 rfl ?_
  refine aX_lstore (lv' := [(0, .ref 159), (1, .int (nI (x))), (2, .long (lN (a))), (4, .long (lN (b))), (6, .long (lN (b)))]) dX11_step_2 (by decide) rfl ?_
  refine aX_iconst (v := nI 0) dX11_step_4 (by decide) ?_
  refine aX_istore (lv' := [(0, .ref 159), (1, .int (nI (x))), (2, .long (lN (a))), (4, .long (lN (b))), (6, .long (lN (b))), (8, .int (nI (0)))]) dX11_step_5 (by decide) rfl ?_
  exact ml_step hR hx hX ha hb _ 0 (by omega) rfl b L (by rw [hPw_0, Nat.mod_one, Nat.zero_mul, Nat.zero_add, Nat.div_one]) ⟨fun j h => by omega, fun j _ h => hX j h⟩ hKp_refl
set_option maxHeartbeats 1000000 in
theorem ml_add {I : Nat → Nat → Int32} {L : Nat → Nat → Int64} {R : Nat → Nat → Option Nat} (hR : aRf R) {x : Nat} (hx : x < 12) {y : Nat} (hy : y < 12) {X Y : Nat} (hX : hD L x X) (hY : hD L y Y) (hne : x ≠ y) {a : Nat} (ha : a < 2147483648) : ∀ (k9 i : Nat), i ≤ 18 → 18 - i = k9 → ∀ (c : Nat) (L1 : Nat → Nat → Int64), c = (X % hPw i + (Y % hPw i) * a) / hPw i → hMix L1 x (X + Y * a) X i → hKp x L L1 → aX mX11_add aE0 (sh0, I, L1, R) 6 [(0, .ref 159), (1, .int (nI (x))), (2, .int (nI (y))), (3, .long (lN (a))), (5, .long (lN (c))), (7, .int (nI (i)))] [] 0 0 (fun ans h' => ans = none ∧ ∃ L', h' = (sh0, I, L', R) ∧ hD L' x (X + Y * a) ∧ hKp x L L') := by
  intro k9
  induction k9 using Nat.strongRecOn with
  | _ k9 ih =>
    intro i hi hk9 c  L1  hc hd hk
    have hcb : c ≤ 1 + a := by rw [hc]; exact adl_b i
    have hdl := hDg_lt X i
    have hdl2 := hDg_lt Y i
    have hml : hDg Y i * a ≤ 1000000000 * 2147483648 := Nat.mul_le_mul (by omega) (by omega)
    refine aX_iload dX11_add_6 rfl ?_
    refine aX_bipush (v := nI 18) dX11_add_8 (by decide) ?_
    refine nGe (tgt := 77) dX11_add_10 (by decide) (by first | omega | exact Nat.lt_of_le_of_lt (Nat.mod_le _ _) (by omega)) (by first | omega | exact Nat.lt_of_le_of_lt (Nat.mod_le _ _) (by omega)) (fun c1 => ?_) (fun c1 => ?_)
    · exact rV dX11_add_77 rfl (⟨rfl, L1, rfl, fun j hj => hd.1 j (by omega), hk⟩)
    · refine aX_aload_n dX11_add_13 rfl ?_
      refine aX_get dX11_add_14 lfX11_113 s159 (f159_40 hR) ?_
      refine aX_bipush (v := nI 18) dX11_add_17 (by decide) ?_
      refine aX_iload_n dX11_add_19 rfl ?_
      refine nMul dX11_add_20 ?_
      refine aX_iload dX11_add_21 rfl ?_
      refine nAdd dX11_add_23 ?_
      refine nLald (v := lN (hDg X i)) dX11_add_24 s191 (by first | omega | exact Nat.lt_of_le_of_lt (Nat.mod_le _ _) (by omega)) (by decide) (hd.2 i (Nat.le_refl _) (by omega)) ?_
      refine aX_aload_n dX11_add_25 rfl ?_
      refine aX_get dX11_add_26 lfX11_113 s159 (f159_40 hR) ?_
      refine aX_bipush (v := nI 18) dX11_add_29 (by decide) ?_
      refine aX_iload_n dX11_add_31 rfl ?_
      refine nMul dX11_add_32 ?_
      refine aX_iload dX11_add_33 rfl ?_
      refine nAdd dX11_add_35 ?_
      refine nLald (v := lN (hDg Y i)) dX11_add_36 s191 (by first | omega | exact Nat.lt_of_le_of_lt (Nat.mod_le _ _) (by omega)) (by decide) ((hD_hK hY (Ne.symm hne) hk) i (by omega)) ?_
      refine aX_lload_n dX11_add_37 rfl ?_
      refine kMul dX11_add_38 ?_
      refine kAdd dX11_add_39 ?_
      refine aX_lload dX11_add_40 rfl ?_
      refine kAdd dX11_add_42 ?_
      refine aX_lstore (lv' := [(0, .ref 159), (1, .int (nI (x))), (2, .int (nI (y))), (3, .long (lN (a))), (5, .long (lN (c))), (7, .int (nI (i))), (8, .long (lN (((hDg X i) + ((hDg Y i) * a)) + c)))]) dX11_add_43 (by decide) rfl ?_
      refine aX_aload_n dX11_add_45 rfl ?_
      refine aX_get dX11_add_46 lfX11_113 s159 (f159_40 hR) ?_
      refine aX_bipush (v := nI 18) dX11_add_49 (by decide) ?_
      refine aX_iload_n dX11_add_51 rfl ?_
      refine nMul dX11_add_52 ?_
      refine aX_iload dX11_add_53 rfl ?_
      refine nAdd dX11_add_55 ?_
      refine aX_lload dX11_add_56 rfl ?_
      refine aX_ldc2 (v := lN 1000000000) dX11_add_58 lkX11_253 ?_
      refine kRem dX11_add_61 (by first | omega | exact Nat.lt_of_le_of_lt (Nat.mod_le _ _) (by omega)) (by first | omega | exact Nat.lt_of_le_of_lt (Nat.mod_le _ _) (by omega)) (by first | omega | exact Nat.lt_of_le_of_lt (Nat.mod_le _ _) (by omega)) ?_
      refine nLast dX11_add_62 s191 (by first | omega | exact Nat.lt_of_le_of_lt (Nat.mod_le _ _) (by omega)) (by decide) ?_
      refine aX_lload dX11_add_63 rfl ?_
      refine aX_ldc2 (v := lN 1000000000) dX11_add_65 lkX11_253 ?_
      refine kDiv dX11_add_68 (by first | omega | exact Nat.lt_of_le_of_lt (Nat.mod_le _ _) (by omega)) (by first | omega | exact Nat.lt_of_le_of_lt (Nat.mod_le _ _) (by omega)) (by first | omega | exact Nat.lt_of_le_of_lt (Nat.mod_le _ _) (by omega)) ?_
      refine aX_lstore (lv' := [(0, .ref 159), (1, .int (nI (x))), (2, .int (nI (y))), (3, .long (lN (a))), (5, .long (lN ((((hDg X i) + ((hDg Y i) * a)) + c) / 1000000000))), (7, .int (nI (i))), (8, .long (lN (((hDg X i) + ((hDg Y i) * a)) + c)))]) dX11_add_69 (by decide) rfl ?_
      refine nInc (lv' := [(0, .ref 159), (1, .int (nI (x))), (2, .int (nI (y))), (3, .long (lN (a))), (5, .long (lN ((((hDg X i) + ((hDg Y i) * a)) + c) / 1000000000))), (7, .int (nI (i + 1))), (8, .long (lN (((hDg X i) + ((hDg Y i) * a)) + c)))]) dX11_add_71 rfl rfl (by decide) rfl ?_
      refine aX_goto (tgt := 6) dX11_add_74 (by decide) ?_
      refine aX_lv (lv' := [(0, .ref 159), (1, .int (nI (x))), (2, .int (nI (y))), (3, .long (lN (a))), (5, .long (lN ((((hDg X i) + ((hDg Y i) * a)) + c) / 1000000000))), (7, .int (nI (i + 1)))]) [0, 1, 2, 3, 4, 5] rfl ?_
      have hca := hCarry (adl_s (x := X) (y := Y) (a := a) i) (adl_r i)
      rw [← hc, Nat.add_comm c] at hca
      exact ih (18 - (i + 1)) (by omega) (i + 1) (by omega) rfl _ _ hca.1.symm (hMix_set hd hca.2.symm) (hKp_set hk (by omega))
set_option maxHeartbeats 1000000 in
theorem m_add {I : Nat → Nat → Int32} {L : Nat → Nat → Int64} {R : Nat → Nat → Option Nat} (hR : aRf R) {x : Nat} (hx : x < 12) {y : Nat} (hy : y < 12) {X Y : Nat} (hX : hD L x X) (hY : hD L y Y) (hne : x ≠ y) {a : Nat} (ha : a < 2147483648) : aM mX11_add [.ref 159, .int (nI x), .int (nI y), .long (lN a)] (sh0, I, L, R) (fun ans h' => ans = none ∧ ∃ L', h' = (sh0, I, L', R) ∧ hD L' x (X + Y * a) ∧ hKp x L L') := by
  refine aM_of plX11_add (Nat.le_of_ble_eq_true rfl) ?_
  refine aX_lconst (v := lN 0) dX11_add_0 rfl ?_
  refine aX_lstore (lv' := [(0, .ref 159), (1, .int (nI (x))), (2, .int (nI (y))), (3, .long (lN (a))), (5, .long (lN (0)))]) dX11_add_1 (by decide) rfl ?_
  refine aX_iconst (v := nI 0) dX11_add_3 (by decide) ?_
  refine aX_istore (lv' := [(0, .ref 159), (1, .int (nI (x))), (2, .int (nI (y))), (3, .long (lN (a))), (5, .long (lN (0))), (7, .int (nI (0)))]) dX11_add_4 (by decide) rfl ?_
  exact ml_add hR hx hy hX hY hne ha _ 0 (by omega) rfl 0 L (by rw [hPw_0, Nat.mod_one, Nat.mod_one, Nat.zero_mul, Nat.add_zero, Nat.zero_div]) ⟨fun j h => by omega, fun j _ h => hX j h⟩ hKp_refl
set_option maxHeartbeats 1000000 in
theorem ml_moved {I : Nat → Nat → Int32} {L : Nat → Nat → Int64} {R : Nat → Nat → Option Nat} (hR : aRf R) {y : Nat} (hy : y < 12) {Y : Nat} (hY : hD L y Y) (hne : y ≠ 11) {a b : Nat} (ha : a < 2147483648) (hb : b < 18) : ∀ (k9 i : Nat), i ≤ 18 → 18 - i = k9 → ∀ (c : Nat) (L1 : Nat → Nat → Int64), c = ((Y * hPw b % hPw i) * a + 0) / hPw i → (∀ j, j < i → L1 191 (198 + j) = lN (hDg (Y * hPw b * a + 0) j)) → hKp 11 L L1 → aX mX11_moved aE0 (sh0, I, L1, R) 6 [(0, .ref 159), (1, .int (nI (y))), (2, .long (lN (a))), (4, .int (nI (b))), (5, .long (lN (c))), (7, .int (nI (i)))] [] 0 0 (fun ans h' => ans = none ∧ ∃ L', h' = (sh0, I, L', R) ∧ hD L' 11 (Y * hPw b * a) ∧ hKp 11 L L') := by
  intro k9
  induction k9 using Nat.strongRecOn with
  | _ k9 ih =>
    intro i hi hk9 c  L1  hc hd hk
    have hcb : c ≤ a + 0 := by rw [hc]; exact stp_b i
    have hdl := hDg_lt Y (i - b)
    refine aX_iload dX11_moved_6 rfl ?_
    refine aX_bipush (v := nI 18) dX11_moved_8 (by decide) ?_
    refine nGe (tgt := 77) dX11_moved_10 (by decide) (by first | omega | exact Nat.lt_of_le_of_lt (Nat.mod_le _ _) (by omega)) (by first | omega | exact Nat.lt_of_le_of_lt (Nat.mod_le _ _) (by omega)) (fun c1 => ?_) (fun c1 => ?_)
    · exact rV dX11_moved_77 rfl (⟨rfl, L1, rfl, fun j hj => hd j (by omega), hk⟩)
    · refine aX_iload dX11_moved_13 rfl ?_
      refine aX_iload dX11_moved_15 rfl ?_
      refine nGe (tgt := 24) dX11_moved_17 (by decide) (by first | omega | exact Nat.lt_of_le_of_lt (Nat.mod_le _ _) (by omega)) (by first | omega | exact Nat.lt_of_le_of_lt (Nat.mod_le _ _) (by omega)) (fun c2 => ?_) (fun c2 => ?_)
      · have hsh : hDg (Y * hPw b) i = hDg Y (i - b) := by rw [hDg_shift]; exact if_neg (by omega)
        have hml : hDg Y (i - b) * a ≤ 1000000000 * 2147483648 := Nat.mul_le_mul (by omega) (by omega)
        refine aX_aload_n dX11_moved_24 rfl ?_
        refine aX_get dX11_moved_25 lfX11_113 s159 (f159_40 hR) ?_
        refine aX_bipush (v := nI 18) dX11_moved_28 (by decide) ?_
        refine aX_iload_n dX11_moved_30 rfl ?_
        refine nMul dX11_moved_31 ?_
        refine aX_iload dX11_moved_32 rfl ?_
        refine nAdd dX11_moved_34 ?_
        refine aX_iload dX11_moved_35 rfl ?_
        refine nSub dX11_moved_37 (by first | omega | exact Nat.lt_of_le_of_lt (Nat.mod_le _ _) (by omega)) ?_
        refine nLald (v := lN (hDg Y (i - b))) dX11_moved_38 s191 (by first | omega | exact Nat.lt_of_le_of_lt (Nat.mod_le _ _) (by omega)) (by decide) (by show L1 191 _ = _; rw [show 18 * y + i - b = 18 * y + (i - b) by omega]; exact (hD_hK hY hne hk) (i - b) (by omega)) ?_
        refine aX_lload_n dX11_moved_39 rfl ?_
        refine kMul dX11_moved_40 ?_
        refine aX_lload dX11_moved_41 rfl ?_
        refine kAdd dX11_moved_43 ?_
        refine aX_lstore (lv' := [(0, .ref 159), (1, .int (nI (y))), (2, .long (lN (a))), (4, .int (nI (b))), (5, .long (lN (c))), (7, .int (nI (i))), (8, .long (lN (((hDg Y (i - b)) * a) + c)))]) dX11_moved_44 (by decide) rfl ?_
        refine aX_aload_n dX11_moved_46 rfl ?_
        refine aX_get dX11_moved_47 lfX11_113 s159 (f159_40 hR) ?_
        refine aX_sipush (v := nI 198) dX11_moved_50 (by decide) ?_
        refine aX_iload dX11_moved_53 rfl ?_
        refine nAdd dX11_moved_55 ?_
        refine aX_lload dX11_moved_56 rfl ?_
        refine aX_ldc2 (v := lN 1000000000) dX11_moved_58 lkX11_253 ?_
        refine kRem dX11_moved_61 (by first | omega | exact Nat.lt_of_le_of_lt (Nat.mod_le _ _) (by omega)) (by first | omega | exact Nat.lt_of_le_of_lt (Nat.mod_le _ _) (by omega)) (by first | omega | exact Nat.lt_of_le_of_lt (Nat.mod_le _ _) (by omega)) ?_
        refine nLast dX11_moved_62 s191 (by first | omega | exact Nat.lt_of_le_of_lt (Nat.mod_le _ _) (by omega)) (by decide) ?_
        refine aX_lload dX11_moved_63 rfl ?_
        refine aX_ldc2 (v := lN 1000000000) dX11_moved_65 lkX11_253 ?_
        refine kDiv dX11_moved_68 (by first | omega | exact Nat.lt_of_le_of_lt (Nat.mod_le _ _) (by omega)) (by first | omega | exact Nat.lt_of_le_of_lt (Nat.mod_le _ _) (by omega)) (by first | omega | exact Nat.lt_of_le_of_lt (Nat.mod_le _ _) (by omega)) ?_
        refine aX_lstore (lv' := [(0, .ref 159), (1, .int (nI (y))), (2, .long (lN (a))), (4, .int (nI (b))), (5, .long (lN ((((hDg Y (i - b)) * a) + c) / 1000000000))), (7, .int (nI (i))), (8, .long (lN (((hDg Y (i - b)) * a) + c)))]) dX11_moved_69 (by decide) rfl ?_
        refine nInc (lv' := [(0, .ref 159), (1, .int (nI (y))), (2, .long (lN (a))), (4, .int (nI (b))), (5, .long (lN ((((hDg Y (i - b)) * a) + c) / 1000000000))), (7, .int (nI (i + 1))), (8, .long (lN (((hDg Y (i - b)) * a) + c)))]) dX11_moved_71 rfl rfl (by decide) rfl ?_
        refine aX_goto (tgt := 6) dX11_moved_74 (by decide) ?_
        refine aX_lv (lv' := [(0, .ref 159), (1, .int (nI (y))), (2, .long (lN (a))), (4, .int (nI (b))), (5, .long (lN ((((hDg Y (i - b)) * a) + c) / 1000000000))), (7, .int (nI (i + 1)))]) [0, 1, 2, 3, 4, 5] rfl ?_
        have hca := hCarry (stp_s (x := Y * hPw b) (a := a) (b := 0) i) (stp_r i)
        rw [← hc, Nat.add_comm c, hsh] at hca
        exact ih (18 - (i + 1)) (by omega) (i + 1) (by omega) rfl _ _ hca.1.symm (fun j hj => by
          by_cases e : j = i
          · subst e; rw [aU_s, hca.2]
          · rw [aU_n (by omega)]; exact hd j (by omega)) (hKp_set (x := 11) hk (by omega))
      · have hsh : hDg (Y * hPw b) i = 0 := by rw [hDg_shift]; exact if_pos (by omega)
        have hml : 0 * a ≤ 1000000000 * 2147483648 := Nat.mul_le_mul (by omega) (by omega)
        refine aX_lconst (v := lN 0) dX11_moved_20 rfl ?_
        refine aX_goto (tgt := 39) dX11_moved_21 (by decide) ?_
        refine aX_lload_n dX11_moved_39 rfl ?_
        refine kMul dX11_moved_40 ?_
        refine aX_lload dX11_moved_41 rfl ?_
        refine kAdd dX11_moved_43 ?_
        refine aX_lstore (lv' := [(0, .ref 159), (1, .int (nI (y))), (2, .long (lN (a))), (4, .int (nI (b))), (5, .long (lN (c))), (7, .int (nI (i))), (8, .long (lN ((0 * a) + c)))]) dX11_moved_44 (by decide) rfl ?_
        refine aX_aload_n dX11_moved_46 rfl ?_
        refine aX_get dX11_moved_47 lfX11_113 s159 (f159_40 hR) ?_
        refine aX_sipush (v := nI 198) dX11_moved_50 (by decide) ?_
        refine aX_iload dX11_moved_53 rfl ?_
        refine nAdd dX11_moved_55 ?_
        refine aX_lload dX11_moved_56 rfl ?_
        refine aX_ldc2 (v := lN 1000000000) dX11_moved_58 lkX11_253 ?_
        refine kRem dX11_moved_61 (by first | omega | exact Nat.lt_of_le_of_lt (Nat.mod_le _ _) (by omega)) (by first | omega | exact Nat.lt_of_le_of_lt (Nat.mod_le _ _) (by omega)) (by first | omega | exact Nat.lt_of_le_of_lt (Nat.mod_le _ _) (by omega)) ?_
        refine nLast dX11_moved_62 s191 (by first | omega | exact Nat.lt_of_le_of_lt (Nat.mod_le _ _) (by omega)) (by decide) ?_
        refine aX_lload dX11_moved_63 rfl ?_
        refine aX_ldc2 (v := lN 1000000000) dX11_moved_65 lkX11_253 ?_
        refine kDiv dX11_moved_68 (by first | omega | exact Nat.lt_of_le_of_lt (Nat.mod_le _ _) (by omega)) (by first | omega | exact Nat.lt_of_le_of_lt (Nat.mod_le _ _) (by omega)) (by first | omega | exact Nat.lt_of_le_of_lt (Nat.mod_le _ _) (by omega)) ?_
        refine aX_lstore (lv' := [(0, .ref 159), (1, .int (nI (y))), (2, .long (lN (a))), (4, .int (nI (b))), (5, .long (lN (((0 * a) + c) / 1000000000))), (7, .int (nI (i))), (8, .long (lN ((0 * a) + c)))]) dX11_moved_69 (by decide) rfl ?_
        refine nInc (lv' := [(0, .ref 159), (1, .int (nI (y))), (2, .long (lN (a))), (4, .int (nI (b))), (5, .long (lN (((0 * a) + c) / 1000000000))), (7, .int (nI (i + 1))), (8, .long (lN ((0 * a) + c)))]) dX11_moved_71 rfl rfl (by decide) rfl ?_
        refine aX_goto (tgt := 6) dX11_moved_74 (by decide) ?_
        refine aX_lv (lv' := [(0, .ref 159), (1, .int (nI (y))), (2, .long (lN (a))), (4, .int (nI (b))), (5, .long (lN (((0 * a) + c) / 1000000000))), (7, .int (nI (i + 1)))]) [0, 1, 2, 3, 4, 5] rfl ?_
        have hca := hCarry (stp_s (x := Y * hPw b) (a := a) (b := 0) i) (stp_r i)
        rw [← hc, Nat.add_comm c, hsh] at hca
        exact ih (18 - (i + 1)) (by omega) (i + 1) (by omega) rfl _ _ hca.1.symm (fun j hj => by
          by_cases e : j = i
          · subst e; rw [aU_s, hca.2]
          · rw [aU_n (by omega)]; exact hd j (by omega)) (hKp_set (x := 11) hk (by omega))
set_option maxHeartbeats 1000000 in
theorem m_moved {I : Nat → Nat → Int32} {L : Nat → Nat → Int64} {R : Nat → Nat → Option Nat} (hR : aRf R) {y : Nat} (hy : y < 12) {Y : Nat} (hY : hD L y Y) (hne : y ≠ 11) {a b : Nat} (ha : a < 2147483648) (hb : b < 18) : aM mX11_moved [.ref 159, .int (nI y), .long (lN a), .int (nI b)] (sh0, I, L, R) (fun ans h' => ans = none ∧ ∃ L', h' = (sh0, I, L', R) ∧ hD L' 11 (Y * hPw b * a) ∧ hKp 11 L L') := by
  refine aM_of plX11_moved (Nat.le_of_ble_eq_true rfl) ?_
  refine aX_lconst (v := lN 0) dX11_moved_0 rfl ?_
  refine aX_lstore (lv' := [(0, .ref 159), (1, .int (nI (y))), (2, .long (lN (a))), (4, .int (nI (b))), (5, .long (lN (0)))]) dX11_moved_1 (by decide) rfl ?_
  refine aX_iconst (v := nI 0) dX11_moved_3 (by decide) ?_
  refine aX_istore (lv' := [(0, .ref 159), (1, .int (nI (y))), (2, .long (lN (a))), (4, .int (nI (b))), (5, .long (lN (0))), (7, .int (nI (0)))]) dX11_moved_4 (by decide) rfl ?_
  exact ml_moved hR hy hY hne ha hb _ 0 (by omega) rfl 0 L (by rw [hPw_0, Nat.mod_one, Nat.zero_mul, Nat.add_zero, Nat.zero_div]) (fun j h => by omega) hKp_refl
set_option maxHeartbeats 1000000 in
theorem ml_less {I : Nat → Nat → Int32} {L : Nat → Nat → Int64} {R : Nat → Nat → Option Nat} (hR : aRf R) {x : Nat} (hx : x < 12) {y : Nat} (hy : y < 12) {X Y : Nat} (hX : hD L x X) (hY : hD L y Y) (hne : x ≠ y) (hYX : Y ≤ X) : ∀ (k9 i : Nat), i ≤ 18 → 18 - i = k9 → ∀ (c : Nat) (L1 : Nat → Nat → Int64), c = lsC X Y i → hMix L1 x (X - Y) X i → hKp x L L1 → aX mX11_less aE0 (sh0, I, L1, R) 5 [(0, .ref 159), (1, .int (nI (x))), (2, .int (nI (y))), (3, .long (lN (c))), (5, .int (nI (i)))] [] 0 0 (fun ans h' => ans = none ∧ ∃ L', h' = (sh0, I, L', R) ∧ hD L' x (X - Y) ∧ hKp x L L') := by
  intro k9
  induction k9 using Nat.strongRecOn with
  | _ k9 ih =>
    intro i hi hk9 c  L1  hc hd hk
    have hls := ls_step hYX i
    have hc1 : c ≤ 1 := by rw [hc]; unfold lsC; split <;> omega
    rw [← hc] at hls
    have hdl := hDg_lt X i
    have hdl2 := hDg_lt Y i
    refine aX_iload dX11_less_5 rfl ?_
    refine aX_bipush (v := nI 18) dX11_less_7 (by decide) ?_
    refine nGe (tgt := 80) dX11_less_9 (by decide) (by first | omega | exact Nat.lt_of_le_of_lt (Nat.mod_le _ _) (by omega)) (by first | omega | exact Nat.lt_of_le_of_lt (Nat.mod_le _ _) (by omega)) (fun c1 => ?_) (fun c1 => ?_)
    · exact rV dX11_less_80 rfl (⟨rfl, L1, rfl, fun j hj => hd.1 j (by omega), hk⟩)
    · refine aX_aload_n dX11_less_12 rfl ?_
      refine aX_get dX11_less_13 lfX11_113 s159 (f159_40 hR) ?_
      refine aX_bipush (v := nI 18) dX11_less_16 (by decide) ?_
      refine aX_iload_n dX11_less_18 rfl ?_
      refine nMul dX11_less_19 ?_
      refine aX_iload dX11_less_20 rfl ?_
      refine nAdd dX11_less_22 ?_
      refine nLald (v := lN (hDg X i)) dX11_less_23 s191 (by first | omega | exact Nat.lt_of_le_of_lt (Nat.mod_le _ _) (by omega)) (by decide) (hd.2 i (Nat.le_refl _) (by omega)) ?_
      refine aX_aload_n dX11_less_24 rfl ?_
      refine aX_get dX11_less_25 lfX11_113 s159 (f159_40 hR) ?_
      refine aX_bipush (v := nI 18) dX11_less_28 (by decide) ?_
      refine aX_iload_n dX11_less_30 rfl ?_
      refine nMul dX11_less_31 ?_
      refine aX_iload dX11_less_32 rfl ?_
      refine nAdd dX11_less_34 ?_
      refine nLald (v := lN (hDg Y i)) dX11_less_35 s191 (by first | omega | exact Nat.lt_of_le_of_lt (Nat.mod_le _ _) (by omega)) (by decide) ((hD_hK hY (Ne.symm hne) hk) i (by omega)) ?_
      refine ySub (a := ((hDg X i : Nat) : Int)) (b := ((hDg Y i : Nat) : Int)) dX11_less_36 (kZ _) (kZ _) ?_
      refine aX_lload_n dX11_less_37 rfl ?_
      refine ySub (a := (((hDg X i : Nat) : Int)) - (((hDg Y i : Nat) : Int))) (b := ((c : Nat) : Int)) dX11_less_38 (rfl) (kZ _) ?_
      refine aX_lstore (lv' := [(0, .ref 159), (1, .int (nI (x))), (2, .int (nI (y))), (3, .long (lN (c))), (5, .int (nI (i))), (6, .long (lZ (((((hDg X i : Nat) : Int)) - (((hDg Y i : Nat) : Int))) - (((c : Nat) : Int)))))]) dX11_less_39 (by decide) rfl ?_
      refine aX_lload dX11_less_41 rfl ?_
      refine aX_lconst (v := lN 0) dX11_less_43 rfl ?_
      refine aX_lcmp dX11_less_44 ?_
      refine lIf_ge (tgt := 52) dX11_less_45 (by decide) (fun c2 => ?_) (fun c2 => ?_)
      · have hz : 0 ≤ (hDg X i : Int) - hDg Y i - c := by
          have z := c2
          rw [show (lN 0 : Int64) = lZ 0 from rfl, lZ_le (by decide) (by decide) (by omega) (by omega)] at z
          omega
        obtain ⟨hs1, hs2⟩ := hls.2 hz
        refine aX_lconst (v := lN 0) dX11_less_52 rfl ?_
        refine aX_lstore_n (lv' := [(0, .ref 159), (1, .int (nI (x))), (2, .int (nI (y))), (3, .long (lN (0))), (5, .int (nI (i))), (6, .long (lZ (((((hDg X i : Nat) : Int)) - (((hDg Y i : Nat) : Int))) - (((c : Nat) : Int)))))]) dX11_less_53 (by decide) rfl ?_
        refine aX_aload_n dX11_less_54 rfl ?_
        refine aX_get dX11_less_55 lfX11_113 s159 (f159_40 hR) ?_
        refine aX_bipush (v := nI 18) dX11_less_58 (by decide) ?_
        refine aX_iload_n dX11_less_60 rfl ?_
        refine nMul dX11_less_61 ?_
        refine aX_iload dX11_less_62 rfl ?_
        refine nAdd dX11_less_64 ?_
        refine aX_lload dX11_less_65 rfl ?_
        refine aX_lload_n dX11_less_67 rfl ?_
        refine aX_ldc2 (v := lN 1000000000) dX11_less_68 lkX11_253 ?_
        refine kMul dX11_less_71 ?_
        refine yAdd (a := ((((hDg X i : Nat) : Int)) - (((hDg Y i : Nat) : Int))) - (((c : Nat) : Int))) (b := ((0 * 1000000000 : Nat) : Int)) dX11_less_72 (rfl) (kZ _) ?_
        refine nLast dX11_less_73 s191 (by first | omega | exact Nat.lt_of_le_of_lt (Nat.mod_le _ _) (by omega)) (by decide) ?_
        refine nInc (lv' := [(0, .ref 159), (1, .int (nI (x))), (2, .int (nI (y))), (3, .long (lN (0))), (5, .int (nI (i + 1))), (6, .long (lZ (((((hDg X i : Nat) : Int)) - (((hDg Y i : Nat) : Int))) - (((c : Nat) : Int)))))]) dX11_less_74 rfl rfl (by decide) rfl ?_
        refine aX_goto (tgt := 5) dX11_less_77 (by decide) ?_
        refine aX_lv (lv' := [(0, .ref 159), (1, .int (nI (x))), (2, .int (nI (y))), (3, .long (lN (0))), (5, .int (nI (i + 1)))]) [0, 1, 2, 3, 4] rfl ?_
        have hv : lZ ((hDg X i : Int) - hDg Y i - c + ((0 * 1000000000 : Nat) : Int)) = lN (hDg (X - Y) i) := by rw [kZ, hs2]; congr 1; try omega
        rw [hv]
        exact ih (18 - (i + 1)) (by omega) (i + 1) (by omega) rfl _ _ hs1.symm (hMix_set hd rfl) (hKp_set hk (by omega))
      · have hz : (hDg X i : Int) - hDg Y i - c < 0 := by
          have z := c2
          rw [show (lN 0 : Int64) = lZ 0 from rfl, lZ_le (by decide) (by decide) (by omega) (by omega)] at z
          omega
        obtain ⟨hs1, hs2⟩ := hls.1 hz
        refine aX_lconst (v := lN 1) dX11_less_48 rfl ?_
        refine aX_goto (tgt := 53) dX11_less_49 (by decide) ?_
        refine aX_lstore_n (lv' := [(0, .ref 159), (1, .int (nI (x))), (2, .int (nI (y))), (3, .long (lN (1))), (5, .int (nI (i))), (6, .long (lZ (((((hDg X i : Nat) : Int)) - (((hDg Y i : Nat) : Int))) - (((c : Nat) : Int)))))]) dX11_less_53 (by decide) rfl ?_
        refine aX_aload_n dX11_less_54 rfl ?_
        refine aX_get dX11_less_55 lfX11_113 s159 (f159_40 hR) ?_
        refine aX_bipush (v := nI 18) dX11_less_58 (by decide) ?_
        refine aX_iload_n dX11_less_60 rfl ?_
        refine nMul dX11_less_61 ?_
        refine aX_iload dX11_less_62 rfl ?_
        refine nAdd dX11_less_64 ?_
        refine aX_lload dX11_less_65 rfl ?_
        refine aX_lload_n dX11_less_67 rfl ?_
        refine aX_ldc2 (v := lN 1000000000) dX11_less_68 lkX11_253 ?_
        refine kMul dX11_less_71 ?_
        refine yAdd (a := ((((hDg X i : Nat) : Int)) - (((hDg Y i : Nat) : Int))) - (((c : Nat) : Int))) (b := ((1 * 1000000000 : Nat) : Int)) dX11_less_72 (rfl) (kZ _) ?_
        refine nLast dX11_less_73 s191 (by first | omega | exact Nat.lt_of_le_of_lt (Nat.mod_le _ _) (by omega)) (by decide) ?_
        refine nInc (lv' := [(0, .ref 159), (1, .int (nI (x))), (2, .int (nI (y))), (3, .long (lN (1))), (5, .int (nI (i + 1))), (6, .long (lZ (((((hDg X i : Nat) : Int)) - (((hDg Y i : Nat) : Int))) - (((c : Nat) : Int)))))]) dX11_less_74 rfl rfl (by decide) rfl ?_
        refine aX_goto (tgt := 5) dX11_less_77 (by decide) ?_
        refine aX_lv (lv' := [(0, .ref 159), (1, .int (nI (x))), (2, .int (nI (y))), (3, .long (lN (1))), (5, .int (nI (i + 1)))]) [0, 1, 2, 3, 4] rfl ?_
        have hv : lZ ((hDg X i : Int) - hDg Y i - c + ((1 * 1000000000 : Nat) : Int)) = lN (hDg (X - Y) i) := by rw [kZ, hs2]; congr 1; try omega
        rw [hv]
        exact ih (18 - (i + 1)) (by omega) (i + 1) (by omega) rfl _ _ hs1.symm (hMix_set hd rfl) (hKp_set hk (by omega))
set_option maxHeartbeats 1000000 in
theorem m_less {I : Nat → Nat → Int32} {L : Nat → Nat → Int64} {R : Nat → Nat → Option Nat} (hR : aRf R) {x : Nat} (hx : x < 12) {y : Nat} (hy : y < 12) {X Y : Nat} (hX : hD L x X) (hY : hD L y Y) (hne : x ≠ y) (hYX : Y ≤ X) : aM mX11_less [.ref 159, .int (nI x), .int (nI y)] (sh0, I, L, R) (fun ans h' => ans = none ∧ ∃ L', h' = (sh0, I, L', R) ∧ hD L' x (X - Y) ∧ hKp x L L') := by
  refine aM_of plX11_less (Nat.le_of_ble_eq_true rfl) ?_
  refine aX_lconst (v := lN 0) dX11_less_0 rfl ?_
  refine aX_lstore_n (lv' := [(0, .ref 159), (1, .int (nI (x))), (2, .int (nI (y))), (3, .long (lN (0)))]) dX11_less_1 (by decide) rfl ?_
  refine aX_iconst (v := nI 0) dX11_less_2 (by decide) ?_
  refine aX_istore (lv' := [(0, .ref 159), (1, .int (nI (x))), (2, .int (nI (y))), (3, .long (lN (0))), (5, .int (nI (0)))]) dX11_less_3 (by decide) rfl ?_
  exact ml_less hR hx hy hX hY hne hYX _ 0 (by omega) rfl 0 L (lsC_0 X Y).symm ⟨fun j h => by omega, fun j _ h => hX j h⟩ hKp_refl
def hCp (x y : Nat) : Int32 := if x < y then -1 else if x = y then nI 0 else nI 1
theorem hCp_at {x y c : Nat} (hu : x / hPw (c + 1) = y / hPw (c + 1)) : (hDg x c < hDg y c → hCp x y = -1) ∧ (hDg y c < hDg x c → hCp x y = nI 1) := by
  have ex := hDg_high x c
  have ey := hDg_high y c
  constructor
  · intro h
    have h1 : x / hPw c < y / hPw c := by rw [ex, ey, hu]; omega
    have h2 : x < y := Nat.lt_of_not_le (fun z => absurd (Nat.div_le_div_right (c := hPw c) z) (by omega))
    unfold hCp; rw [if_pos h2]
  · intro h
    have h1 : y / hPw c < x / hPw c := by rw [ex, ey, hu]; omega
    have h2 : y < x := Nat.lt_of_not_le (fun z => absurd (Nat.div_le_div_right (c := hPw c) z) (by omega))
    unfold hCp; rw [if_neg (by omega), if_neg (by omega)]
set_option maxHeartbeats 1000000 in
theorem ml_compare {I : Nat → Nat → Int32} {L : Nat → Nat → Int64} {R : Nat → Nat → Option Nat} (hR : aRf R) {x : Nat} (hx : x < 12) {y : Nat} (hy : y < 12) {X Y : Nat} (hX : hD L x X) (hY : hD L y Y) (hX1 : X < hPw 18) (hY1 : Y < hPw 18) : ∀ (k9 c : Nat), c ≤ 18 → c = k9 → X / hPw c = Y / hPw c → aX mX11_compare aE0 (sh0, I, L, R) 3 [(0, .ref 159), (1, .int (nI (x))), (2, .int (nI (y))), (3, .int (jDn c))] [] 0 0 (fun ans h' => h' = (sh0, I, L, R) ∧ ans = some (.int (hCp X Y))) := by
  intro k9
  induction k9 using Nat.strongRecOn with
  | _ k9 ih =>
    intro c hi hk9  hu
    cases c with
    | zero =>
      refine aX_iload_n dX11_compare_3 rfl ?_
      refine aX_if_lt (tgt := 58) dX11_compare_4 (by decide) (fun c1 => ?_) (fun c1 => ?_)
      · refine aX_iconst (v := nI 0) dX11_compare_58 (by decide) ?_
        exact rI dX11_compare_59 rfl (⟨rfl, by rw [hPw_0, Nat.div_one, Nat.div_one] at hu; unfold hCp; rw [if_neg (by omega), if_pos hu]⟩)
      · exact absurd (by decide) c1
    | succ c =>
      have hdl := hDg_lt X c
      have hdl2 := hDg_lt Y c
      refine aX_iload_n dX11_compare_3 rfl ?_
      refine aX_if_lt (tgt := 58) dX11_compare_4 (by decide) (fun c2 => ?_) (fun c2 => ?_)
      · exact absurd c2 (nI_pos (by omega))
      · refine aX_aload_n dX11_compare_7 rfl ?_
        refine aX_get dX11_compare_8 lfX11_113 s159 (f159_40 hR) ?_
        refine aX_bipush (v := nI 18) dX11_compare_11 (by decide) ?_
        refine aX_iload_n dX11_compare_13 rfl ?_
        refine nMul dX11_compare_14 ?_
        refine aX_iload_n dX11_compare_15 rfl ?_
        refine nAdd dX11_compare_16 ?_
        refine nLald (v := lN (hDg X c)) dX11_compare_17 s191 (by first | omega | exact Nat.lt_of_le_of_lt (Nat.mod_le _ _) (by omega)) (by decide) (hX c (by omega)) ?_
        refine aX_aload_n dX11_compare_18 rfl ?_
        refine aX_get dX11_compare_19 lfX11_113 s159 (f159_40 hR) ?_
        refine aX_bipush (v := nI 18) dX11_compare_22 (by decide) ?_
        refine aX_iload_n dX11_compare_24 rfl ?_
        refine nMul dX11_compare_25 ?_
        refine aX_iload_n dX11_compare_26 rfl ?_
        refine nAdd dX11_compare_27 ?_
        refine nLald (v := lN (hDg Y c)) dX11_compare_28 s191 (by first | omega | exact Nat.lt_of_le_of_lt (Nat.mod_le _ _) (by omega)) (by decide) (hY c (by omega)) ?_
        refine ySub (a := ((hDg X c : Nat) : Int)) (b := ((hDg Y c : Nat) : Int)) dX11_compare_29 (kZ _) (kZ _) ?_
        refine aX_lstore (lv' := [(0, .ref 159), (1, .int (nI (x))), (2, .int (nI (y))), (3, .int (nI (c))), (4, .long (lZ ((((hDg X c : Nat) : Int)) - (((hDg Y c : Nat) : Int)))))]) dX11_compare_30 (by decide) rfl ?_
        refine aX_lload dX11_compare_32 rfl ?_
        refine aX_lconst (v := lN 0) dX11_compare_34 rfl ?_
        refine aX_lcmp dX11_compare_35 ?_
        refine lIf_eq (tgt := 52) dX11_compare_36 (by decide) (fun c3 => ?_) (fun c3 => ?_)
        · have hz : hDg X c = hDg Y c := by
            have z := c3
            rw [show (lN 0 : Int64) = lZ 0 from rfl, lZ_eq (by omega) (by omega) (by decide) (by decide)] at z
            omega
          refine aX_iinc (v := (nI (c)) + (-1)) (lv' := [(0, .ref 159), (1, .int (nI (x))), (2, .int (nI (y))), (3, .int ((nI (c)) + (-1))), (4, .long (lZ ((((hDg X c : Nat) : Int)) - (((hDg Y c : Nat) : Int)))))]) dX11_compare_52 rfl rfl (by decide) rfl ?_
          refine aX_goto (tgt := 3) dX11_compare_55 (by decide) ?_
          refine aX_lv (lv' := [(0, .ref 159), (1, .int (nI (x))), (2, .int (nI (y))), (3, .int ((nI (c)) + (-1)))]) [0, 1, 2, 3] rfl ?_
          refine aX_lv (lv' := [(0, .ref 159), (1, .int (nI (x))), (2, .int (nI (y))), (3, .int (jDn c))]) [0, 1, 2, 3] (by rw [← jDn_dec]; rfl) ?_
          exact ih c (by omega) c (by omega) rfl (by rw [hDg_high X c, hDg_high Y c, hu, hz])
        · have hz : hDg X c ≠ hDg Y c := fun z => c3 (by rw [z, Int.sub_self]; rfl)
          refine aX_lload dX11_compare_39 rfl ?_
          refine aX_lconst (v := lN 0) dX11_compare_41 rfl ?_
          refine aX_lcmp dX11_compare_42 ?_
          refine lIf_ge (tgt := 50) dX11_compare_43 (by decide) (fun c4 => ?_) (fun c4 => ?_)
          · have hz2 : hDg Y c < hDg X c := by
              have z := c4
              rw [show (lN 0 : Int64) = lZ 0 from rfl, lZ_le (by decide) (by decide) (by omega) (by omega)] at z
              omega
            refine aX_iconst (v := nI 1) dX11_compare_50 (by decide) ?_
            exact rI dX11_compare_51 rfl (⟨rfl, by rw [(hCp_at hu).2 hz2]⟩)
          · have hz2 : hDg X c < hDg Y c := by
              have z := c4
              rw [show (lN 0 : Int64) = lZ 0 from rfl, lZ_le (by decide) (by decide) (by omega) (by omega)] at z
              omega
            refine aX_iconst (v := (-1)) dX11_compare_46 (by decide) ?_
            refine aX_goto (tgt := 51) dX11_compare_47 (by decide) ?_
            exact rI dX11_compare_51 rfl (⟨rfl, by rw [(hCp_at hu).1 hz2]⟩)
set_option maxHeartbeats 1000000 in
theorem m_compare {I : Nat → Nat → Int32} {L : Nat → Nat → Int64} {R : Nat → Nat → Option Nat} (hR : aRf R) {x : Nat} (hx : x < 12) {y : Nat} (hy : y < 12) {X Y : Nat} (hX : hD L x X) (hY : hD L y Y) (hX1 : X < hPw 18) (hY1 : Y < hPw 18) : aMp mX11_compare [.ref 159, .int (nI x), .int (nI y)] (sh0, I, L, R) (.int (hCp X Y)) := by
  refine aM_of plX11_compare (Nat.le_of_ble_eq_true rfl) ?_
  refine aX_bipush (v := nI 17) dX11_compare_0 (by decide) ?_
  refine aX_istore_n (lv' := [(0, .ref 159), (1, .int (nI (x))), (2, .int (nI (y))), (3, .int (nI (17)))]) dX11_compare_2 (by decide) rfl ?_
  refine aX_lv (lv' := [(0, .ref 159), (1, .int (nI x)), (2, .int (nI y)), (3, .int (jDn 18))]) [0, 1, 2, 3] rfl ?_
  exact ml_compare hR hx hy hX hY hX1 hY1 _ 18 (by omega) rfl (by rw [Nat.div_eq_of_lt hX1, Nat.div_eq_of_lt hY1])
theorem hz_iff {X : Nat} (h1 : X < hPw 18) (h : ∀ j, j < 18 → hDg X j = 0) : X = 0 := by
  have := hDg_ext (x := X) (y := 0) 18 (fun j hj => (h j hj).trans (hDg_00 j).symm)
  rw [Nat.mod_eq_of_lt h1, Nat.zero_mod] at this; exact this
set_option maxHeartbeats 1000000 in
theorem ml_isZero {I : Nat → Nat → Int32} {L : Nat → Nat → Int64} {R : Nat → Nat → Option Nat} (hR : aRf R) {x : Nat} (hx : x < 12) {X : Nat} (hX : hD L x X) (hX1 : X < hPw 18) : ∀ (k9 i : Nat), i ≤ 18 → 18 - i = k9 → ∀ (b : Bool), ((b = true → ∀ j, j < i → hDg X j = 0) ∧ (b = false → ∃ j, j < i ∧ hDg X j ≠ 0)) → aX mX11_isZero aE0 (sh0, I, L, R) 4 [(0, .ref 159), (1, .int (nI (x))), (2, .int (bI (b))), (3, .int (nI (i)))] [] 0 0 (fun ans h' => h' = (sh0, I, L, R) ∧ ans = some (.int (bI (decide (X = 0))))) := by
  intro k9
  induction k9 using Nat.strongRecOn with
  | _ k9 ih =>
    intro i hi hk9 b  hb
    have hdl := hDg_lt X i
    refine aX_iload_n dX11_isZero_4 rfl ?_
    refine aX_bipush (v := nI 18) dX11_isZero_5 (by decide) ?_
    refine nGe (tgt := 42) dX11_isZero_7 (by decide) (by first | omega | exact Nat.lt_of_le_of_lt (Nat.mod_le _ _) (by omega)) (by first | omega | exact Nat.lt_of_le_of_lt (Nat.mod_le _ _) (by omega)) (fun c1 => ?_) (fun c1 => ?_)
    · have hb0 : b = decide (X = 0) := by
        cases b with
        | true => exact (decide_eq_true (hz_iff hX1 (fun j hj => hb.1 rfl j (by omega)))).symm
        | false =>
          obtain ⟨j, hj, g⟩ := hb.2 rfl
          exact (decide_eq_false (fun z => g (by rw [z, hDg_00]))).symm
      refine aX_iload_n dX11_isZero_42 rfl ?_
      exact rZ dX11_isZero_43 rfl (bI_01 _) (⟨rfl, by rw [hb0]⟩)
    · refine aX_iload_n dX11_isZero_10 rfl ?_
      refine bEq (tgt := 42) dX11_isZero_11 (by decide) (fun c2 => ?_) (fun c2 => ?_)
      · have hb0 : b = decide (X = 0) := by
          rw [c2]
          obtain ⟨j, hj, g⟩ := hb.2 c2
          exact (decide_eq_false (fun z => g (by rw [z, hDg_00]))).symm
        refine aX_iload_n dX11_isZero_42 rfl ?_
        exact rZ dX11_isZero_43 rfl (bI_01 _) (⟨rfl, by rw [hb0]⟩)
      · have hbt := c2
        refine aX_aload_n dX11_isZero_14 rfl ?_
        refine aX_get dX11_isZero_15 lfX11_113 s159 (f159_40 hR) ?_
        refine aX_bipush (v := nI 18) dX11_isZero_18 (by decide) ?_
        refine aX_iload_n dX11_isZero_20 rfl ?_
        refine nMul dX11_isZero_21 ?_
        refine aX_iload_n dX11_isZero_22 rfl ?_
        refine nAdd dX11_isZero_23 ?_
        refine nLald (v := lN (hDg X i)) dX11_isZero_24 s191 (by first | omega | exact Nat.lt_of_le_of_lt (Nat.mod_le _ _) (by omega)) (by decide) (hX i (by omega)) ?_
        refine aX_lconst (v := lN 0) dX11_isZero_25 rfl ?_
        refine aX_lcmp dX11_isZero_26 ?_
        refine kIf_ne (tgt := 34) dX11_isZero_27 (by decide) (by first | omega | exact Nat.lt_of_le_of_lt (Nat.mod_le _ _) (by omega)) (by first | omega | exact Nat.lt_of_le_of_lt (Nat.mod_le _ _) (by omega)) (fun c3 => ?_) (fun c3 => ?_)
        · have hzd := c3
          refine aX_iconst (v := nI 0) dX11_isZero_34 (by decide) ?_
          refine aX_istore_n (lv' := [(0, .ref 159), (1, .int (nI (x))), (2, .int (nI (0))), (3, .int (nI (i)))]) dX11_isZero_35 (by decide) rfl ?_
          refine nInc (lv' := [(0, .ref 159), (1, .int (nI (x))), (2, .int (nI (0))), (3, .int (nI (i + 1)))]) dX11_isZero_36 rfl rfl (by decide) rfl ?_
          refine aX_goto (tgt := 4) dX11_isZero_39 (by decide) ?_
          refine aX_lv (lv' := [(0, .ref 159), (1, .int (nI (x))), (2, .int (bI (false))), (3, .int (nI (i + 1)))]) [0, 1, 2, 3] rfl ?_
          exact ih (18 - (i + 1)) (by omega) (i + 1) (by omega) rfl false ⟨fun g => absurd g Bool.false_ne_true, fun _ => ⟨i, by omega, by omega⟩⟩
        · have hzd := c3
          refine aX_iconst (v := nI 1) dX11_isZero_30 (by decide) ?_
          refine aX_goto (tgt := 35) dX11_isZero_31 (by decide) ?_
          refine aX_istore_n (lv' := [(0, .ref 159), (1, .int (nI (x))), (2, .int (nI (1))), (3, .int (nI (i)))]) dX11_isZero_35 (by decide) rfl ?_
          refine nInc (lv' := [(0, .ref 159), (1, .int (nI (x))), (2, .int (nI (1))), (3, .int (nI (i + 1)))]) dX11_isZero_36 rfl rfl (by decide) rfl ?_
          refine aX_goto (tgt := 4) dX11_isZero_39 (by decide) ?_
          refine aX_lv (lv' := [(0, .ref 159), (1, .int (nI (x))), (2, .int (bI (true))), (3, .int (nI (i + 1)))]) [0, 1, 2, 3] rfl ?_
          exact ih (18 - (i + 1)) (by omega) (i + 1) (by omega) rfl true ⟨fun _ j hj => by
            by_cases e : j = i
            · subst e; omega
            · exact hb.1 hbt j (by omega), fun g => absurd g (by decide)⟩
set_option maxHeartbeats 1000000 in
theorem m_isZero {I : Nat → Nat → Int32} {L : Nat → Nat → Int64} {R : Nat → Nat → Option Nat} (hR : aRf R) {x : Nat} (hx : x < 12) {X : Nat} (hX : hD L x X) (hX1 : X < hPw 18) : aMp mX11_isZero [.ref 159, .int (nI x)] (sh0, I, L, R) (.int (bI (decide (X = 0)))) := by
  refine aM_of plX11_isZero (Nat.le_of_ble_eq_true rfl) ?_
  refine aX_iconst (v := nI 1) dX11_isZero_0 (by decide) ?_
  refine aX_istore_n (lv' := [(0, .ref 159), (1, .int (nI (x))), (2, .int (nI (1)))]) dX11_isZero_1 (by decide) rfl ?_
  refine aX_iconst (v := nI 0) dX11_isZero_2 (by decide) ?_
  refine aX_istore_n (lv' := [(0, .ref 159), (1, .int (nI (x))), (2, .int (nI (1))), (3, .int (nI (0)))]) dX11_isZero_3 (by decide) rfl ?_
  refine aX_lv (lv' := [(0, .ref 159), (1, .int (nI x)), (2, .int (bI true)), (3, .int (nI 0))]) [0, 1, 2, 3] rfl ?_
  exact ml_isZero hR hx hX hX1 _ 0 (by omega) rfl true ⟨fun _ j h => by omega, fun g => absurd g (by decide)⟩
theorem hv_dg (X i : Nat) : hDg (X / 2) i = (hDg X i + X / hPw (i + 1) % 2 * 1000000000) / 2 ∧ (hDg X i + X / hPw (i + 1) % 2 * 1000000000) % 2 = X / hPw i % 2 := by
  have h := hDg_high X i
  have hl := hDg_lt X i
  have e : hDg (X / 2) i = X / hPw i / 2 % 1000000000 := by unfold hDg; rw [Nat.div_div_eq_div_mul, Nat.mul_comm 2, ← Nat.div_div_eq_div_mul]
  rw [e]
  omega
set_option maxHeartbeats 1000000 in
theorem ml_halve {I : Nat → Nat → Int32} {L : Nat → Nat → Int64} {R : Nat → Nat → Option Nat} (hR : aRf R) {x : Nat} (hx : x < 12) {X : Nat} (hX : hD L x X) (hX1 : X < hPw 18) : ∀ (k9 c : Nat), c ≤ 18 → c = k9 → ∀ (cy : Nat) (L1 : Nat → Nat → Int64), cy = X / hPw c % 2 → (∀ j, c ≤ j → j < 18 → L1 191 (18 * x + j) = lN (hDg (X / 2) j)) → (∀ j, j < c → L1 191 (18 * x + j) = lN (hDg X j)) → hKp x L L1 → aX mX11_halve aE0 (sh0, I, L1, R) 6 [(0, .ref 159), (1, .int (nI (x))), (2, .long (lN (cy))), (4, .int (jDn c))] [] 0 0 (fun ans h' => ans = none ∧ ∃ L', h' = (sh0, I, L', R) ∧ hD L' x (X / 2) ∧ hKp x L L') := by
  intro k9
  induction k9 using Nat.strongRecOn with
  | _ k9 ih =>
    intro c hi hk9 cy  L1  hc hd he hk
    cases c with
    | zero =>
      refine aX_iload dX11_halve_6 rfl ?_
      refine aX_if_lt (tgt := 58) dX11_halve_8 (by decide) (fun c1 => ?_) (fun c1 => ?_)
      · exact rV dX11_halve_58 rfl (⟨rfl, L1, rfl, fun j hj => hd j (by omega) hj, hk⟩)
      · exact absurd (by decide) c1
    | succ c =>
      have hdl := hDg_lt X c
      have hcl : cy < 2 := by rw [hc]; exact Nat.mod_lt _ (by decide)
      refine aX_iload dX11_halve_6 rfl ?_
      refine aX_if_lt (tgt := 58) dX11_halve_8 (by decide) (fun c2 => ?_) (fun c2 => ?_)
      · exact absurd c2 (nI_pos (by omega))
      · refine aX_aload_n dX11_halve_11 rfl ?_
        refine aX_get dX11_halve_12 lfX11_113 s159 (f159_40 hR) ?_
        refine aX_bipush (v := nI 18) dX11_halve_15 (by decide) ?_
        refine aX_iload_n dX11_halve_17 rfl ?_
        refine nMul dX11_halve_18 ?_
        refine aX_iload dX11_halve_19 rfl ?_
        refine nAdd dX11_halve_21 ?_
        refine nLald (v := lN (hDg X c)) dX11_halve_22 s191 (by first | omega | exact Nat.lt_of_le_of_lt (Nat.mod_le _ _) (by omega)) (by decide) (he c (by omega)) ?_
        refine aX_lload_n dX11_halve_23 rfl ?_
        refine aX_ldc2 (v := lN 1000000000) dX11_halve_24 lkX11_253 ?_
        refine kMul dX11_halve_27 ?_
        refine kAdd dX11_halve_28 ?_
        refine aX_lstore (lv' := [(0, .ref 159), (1, .int (nI (x))), (2, .long (lN (cy))), (4, .int (nI (c))), (5, .long (lN ((hDg X c) + (cy * 1000000000))))]) dX11_halve_29 (by decide) rfl ?_
        refine aX_aload_n dX11_halve_31 rfl ?_
        refine aX_get dX11_halve_32 lfX11_113 s159 (f159_40 hR) ?_
        refine aX_bipush (v := nI 18) dX11_halve_35 (by decide) ?_
        refine aX_iload_n dX11_halve_37 rfl ?_
        refine nMul dX11_halve_38 ?_
        refine aX_iload dX11_halve_39 rfl ?_
        refine nAdd dX11_halve_41 ?_
        refine aX_lload dX11_halve_42 rfl ?_
        refine aX_iconst (v := nI 1) dX11_halve_44 (by decide) ?_
        refine kShr dX11_halve_45 (by first | omega | exact Nat.lt_of_le_of_lt (Nat.mod_le _ _) (by omega)) (by first | omega | exact Nat.lt_of_le_of_lt (Nat.mod_le _ _) (by omega)) ?_
        refine nLast dX11_halve_46 s191 (by first | omega | exact Nat.lt_of_le_of_lt (Nat.mod_le _ _) (by omega)) (by decide) ?_
        refine aX_lload dX11_halve_47 rfl ?_
        refine aX_lconst (v := lN 1) dX11_halve_49 rfl ?_
        refine kAnd 1 dX11_halve_50 rfl (by decide) (by first | omega | exact Nat.lt_of_le_of_lt (Nat.mod_le _ _) (by omega)) rfl ?_
        refine aX_lstore_n (lv' := [(0, .ref 159), (1, .int (nI (x))), (2, .long (lN (((hDg X c) + (cy * 1000000000)) % 2 ^ 1))), (4, .int (nI (c))), (5, .long (lN ((hDg X c) + (cy * 1000000000))))]) dX11_halve_51 (by decide) rfl ?_
        refine aX_iinc (v := (nI (c)) + (-1)) (lv' := [(0, .ref 159), (1, .int (nI (x))), (2, .long (lN (((hDg X c) + (cy * 1000000000)) % 2 ^ 1))), (4, .int ((nI (c)) + (-1))), (5, .long (lN ((hDg X c) + (cy * 1000000000))))]) dX11_halve_52 rfl rfl (by decide) rfl ?_
        refine aX_goto (tgt := 6) dX11_halve_55 (by decide) ?_
        refine aX_lv (lv' := [(0, .ref 159), (1, .int (nI (x))), (2, .long (lN (((hDg X c) + (cy * 1000000000)) % 2 ^ 1))), (4, .int ((nI (c)) + (-1)))]) [0, 1, 2, 3] rfl ?_
        refine aX_lv (lv' := [(0, .ref 159), (1, .int (nI (x))), (2, .long (lN (((hDg X c) + (cy * 1000000000)) % 2 ^ 1))), (4, .int (jDn c))]) [0, 1, 2, 3] (by rw [← jDn_dec]; rfl) ?_
        have hvd := hv_dg X c
        rw [← hc] at hvd
        exact ih c (by omega) c (by omega) rfl _ _ hvd.2 (fun j h1 h2 => by
          by_cases e : j = c
          · subst e; rw [aU_s, hvd.1]
          · rw [aU_n (by omega)]; exact hd j (by omega) h2) (fun j h1 => by rw [aU_n (by omega)]; exact he j (by omega)) (hKp_set hk (by omega))
set_option maxHeartbeats 1000000 in
theorem m_halve {I : Nat → Nat → Int32} {L : Nat → Nat → Int64} {R : Nat → Nat → Option Nat} (hR : aRf R) {x : Nat} (hx : x < 12) {X : Nat} (hX : hD L x X) (hX1 : X < hPw 18) : aM mX11_halve [.ref 159, .int (nI x)] (sh0, I, L, R) (fun ans h' => ans = none ∧ ∃ L', h' = (sh0, I, L', R) ∧ hD L' x (X / 2) ∧ hKp x L L') := by
  refine aM_of plX11_halve (Nat.le_of_ble_eq_true rfl) ?_
  refine aX_lconst (v := lN 0) dX11_halve_0 rfl ?_
  refine aX_lstore_n (lv' := [(0, .ref 159), (1, .int (nI (x))), (2, .long (lN (0)))]) dX11_halve_1 (by decide) rfl ?_
  refine aX_bipush (v := nI 17) dX11_halve_2 (by decide) ?_
  refine aX_istore (lv' := [(0, .ref 159), (1, .int (nI (x))), (2, .long (lN (0))), (4, .int (nI (17)))]) dX11_halve_4 (by decide) rfl ?_
  refine aX_lv (lv' := [(0, .ref 159), (1, .int (nI x)), (2, .long (lN 0)), (4, .int (jDn 18))]) [0, 1, 2, 3] rfl ?_
  exact ml_halve hR hx hX hX1 _ 18 (by omega) rfl 0 L (by rw [Nat.div_eq_of_lt hX1]) (fun j h1 h2 => by omega) hX hKp_refl
set_option maxHeartbeats 1000000 in
theorem m_isOdd {I : Nat → Nat → Int32} {L : Nat → Nat → Int64} {R : Nat → Nat → Option Nat} (hR : aRf R) {x : Nat} (hx : x < 12) {X : Nat} (hX : hD L x X) : aMp mX11_isOdd [.ref 159, .int (nI x)] (sh0, I, L, R) (.int (bI (decide (X % 2 = 1)))) := by
  have hdl := hDg_lt X 0
  have hd0 := hDg_0 X
  refine aM_of plX11_isOdd (Nat.le_of_ble_eq_true rfl) ?_
  refine aX_aload_n dX11_isOdd_0 rfl ?_
  refine aX_get dX11_isOdd_1 lfX11_113 s159 (f159_40 hR) ?_
  refine aX_bipush (v := nI 18) dX11_isOdd_4 (by decide) ?_
  refine aX_iload_n dX11_isOdd_6 rfl ?_
  refine nMul dX11_isOdd_7 ?_
  refine nLald (v := lN (hDg X 0)) dX11_isOdd_8 s191 (by first | omega | exact Nat.lt_of_le_of_lt (Nat.mod_le _ _) (by omega)) (by decide) (hX 0 (by decide)) ?_
  refine aX_lconst (v := lN 1) dX11_isOdd_9 rfl ?_
  refine kAnd 1 dX11_isOdd_10 rfl (by decide) (by first | omega | exact Nat.lt_of_le_of_lt (Nat.mod_le _ _) (by omega)) rfl ?_
  refine aX_lconst (v := lN 1) dX11_isOdd_11 rfl ?_
  refine aX_lcmp dX11_isOdd_12 ?_
  refine kIf_ne (tgt := 20) dX11_isOdd_13 (by decide) (by first | omega | exact Nat.lt_of_le_of_lt (Nat.mod_le _ _) (by omega)) (by first | omega | exact Nat.lt_of_le_of_lt (Nat.mod_le _ _) (by omega)) (fun c1 => ?_) (fun c1 => ?_)
  · refine aX_iconst (v := nI 0) dX11_isOdd_20 (by decide) ?_
    exact rZ dX11_isOdd_21 rfl (Or.inl rfl) (⟨rfl, by rw [show decide (X % 2 = 1) = false by first | exact decide_eq_true (by omega) | exact decide_eq_false (by omega)]; rfl⟩)
  · refine aX_iconst (v := nI 1) dX11_isOdd_16 (by decide) ?_
    refine aX_goto (tgt := 21) dX11_isOdd_17 (by decide) ?_
    exact rZ dX11_isOdd_21 rfl (Or.inr rfl) (⟨rfl, by rw [show decide (X % 2 = 1) = true by first | exact decide_eq_true (by omega) | exact decide_eq_false (by omega)]; rfl⟩)
