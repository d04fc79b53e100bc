/-! RATIOS -/
def jP (p : Nat) : Nat := ([2, 3, 5, 7, 11, 13] : List Nat).getD p 0
def jLg (p : Nat) : Int32 := ([120000, 190196, 278631, 336883, 415132, 444053] : List Int32).getD p 0
theorem prim_val {j : Nat} (hj : j < 6) : ([2, 3, 5, 7, 11, 13] : List Int32).getD j 0 = nI (jP j) := by
  rcases (show j = 0 ∨ j = 1 ∨ j = 2 ∨ j = 3 ∨ j = 4 ∨ j = 5 by omega) with rfl | rfl | rfl | rfl | rfl | rfl <;> rfl
theorem jP_in {j : Nat} (hj : j < 6) : 2 ≤ jP j ∧ jP j ≤ 13 := by
  rcases (show j = 0 ∨ j = 1 ∨ j = 2 ∨ j = 3 ∨ j = 4 ∨ j = 5 by omega) with rfl | rfl | rfl | rfl | rfl | rfl <;> decide
/-- how often q is in v, at most f times -/
def jPw : Nat → Nat → Nat → Nat
  | 0, _, _ => 0
  | f + 1, v, q => if v % q = 0 then jPw f (v / q) q + 1 else 0
def jStr : Nat → Nat → Nat → Nat
  | 0, v, _ => v
  | f + 1, v, q => if v % q = 0 then jStr f (v / q) q else v
theorem jPw_le : ∀ f v q, jPw f v q ≤ f
  | 0, _, _ => Nat.le_refl _
  | f + 1, v, q => by
    have := jPw_le f (v / q) q
    unfold jPw
    split <;> omega
theorem jStr_le : ∀ f v q, jStr f v q ≤ v
  | 0, _, _ => Nat.le_refl _
  | f + 1, v, q => by
    have := jStr_le f (v / q) q
    have h2 := Nat.div_le_self v q
    unfold jStr
    split <;> omega
def jSmR (v : Nat) : Nat → Nat
  | 0 => v
  | p + 1 => jStr 14 (jSmR v p) (jP p)
theorem jSmR_le (v : Nat) : ∀ p, jSmR v p ≤ v
  | 0 => Nat.le_refl _
  | p + 1 => Nat.le_trans (jStr_le _ _ _) (jSmR_le v p)
def jSmall (v : Nat) : Bool := decide (jSmR v 6 = 1)
def jShr (u d : Nat) : Nat → Bool
  | 0 => false
  | p + 1 => jShr u d p || (decide (u % jP p = 0) && decide (d % jP p = 0))
def jPd (u d p : Nat) : Int32 := nI (jPw 14 u (jP p)) - nI (jPw 14 d (jP p))
def jSzF (u d : Nat) : Nat → Int32
  | 0 => 0
  | p + 1 => jSzF u d p + jPd u d p * jLg p
def jSize (u d : Nat) : Int32 := jSzF u d 6
def jAbs (x : Int32) : Int32 := if 0 ≤ x then x else -x
/-- HARSH of a ratio by another one, by their powers; primes 1 .. p -/
def jHr (f g : Nat → Int32) : Nat → Int32
  | 0 => 0
  | p + 1 => jHr f g p + jAbs (f (p + 1) - g (p + 1)) * nI (jP (p + 1) - 1)
abbrev jR : Type := (Nat → Nat) × (Nat → Nat) × (Nat → Nat)
def slRep (I : Nat → Nat → Int32) (sl u d : Nat) : Prop := I 11 sl = nI u ∧ I 12 sl = nI d ∧ I 13 sl = jSize u d ∧ ∀ p, p < 6 → I 14 (sl * 6 + p) = jPd u d p
def rOk (r : jR) : Prop := ∀ c, c < 12 → r.1 c ≤ 3 ∧ ∀ i, i < r.1 c → 1 ≤ r.2.1 (c * 3 + i) ∧ r.2.1 (c * 3 + i) ≤ 9999 ∧ 1 ≤ r.2.2 (c * 3 + i) ∧ r.2.2 (c * 3 + i) ≤ 9999
def rRep (I : Nat → Nat → Int32) (r : jR) : Prop := rOk r ∧ (∀ c, c < 12 → I 15 c = nI (r.1 c) ∧ ∀ i, i < r.1 c → slRep I (c * 3 + i) (r.2.1 (c * 3 + i)) (r.2.2 (c * 3 + i))) ∧ slRep I 36 1 1
def jHas (r : jR) (c : Nat) (x y : Int32) : Nat → Bool
  | 0 => false
  | i + 1 => jHas r c x y i || (decide (nI (r.2.1 (c * 3 + i)) = x) && decide (nI (r.2.2 (c * 3 + i)) = y))
theorem jHas_at {r : jR} {c : Nat} {x y : Int32} {i : Nat} (h1 : nI (r.2.1 (c * 3 + i)) = x) (h2 : nI (r.2.2 (c * 3 + i)) = y) : ∀ n, i < n → jHas r c x y n = true := by
  intro n
  induction n with
  | zero => intro h; omega
  | succ n ih =>
    intro h
    unfold jHas
    rcases Nat.lt_or_ge i n with z | z
    · rw [ih z]; rfl
    · rw [show n = i by omega, h1, h2]; simp
theorem jShr_at {u d p : Nat} (h1 : u % jP p = 0) (h2 : d % jP p = 0) : ∀ n, p < n → jShr u d n = true := by
  intro n
  induction n with
  | zero => intro h; omega
  | succ n ih =>
    intro h
    unfold jShr
    rcases Nat.lt_or_ge p n with z | z
    · rw [ih z]; rfl
    · rw [show n = p by omega, h1, h2]; simp
/-- what a user may add -/
def jAlN (u d : Nat) : Bool := decide (d ≤ u) && decide (u < 2 * d) && jSmall u && jSmall d && !jShr u d 6
def jTn (x : Int32) : Bool := decide ((1 : Int32) ≤ x) && decide (x ≤ (9999 : Int32))
def jAl (x y : Int32) : Bool := jTn x && jTn y && jAlN x.toNatClampNeg y.toNatClampNeg
theorem jTn_t {x : Int32} (h : jTn x = true) : ∃ u, 1 ≤ u ∧ u ≤ 9999 ∧ x = nI u := by
  unfold jTn at h
  simp only [Bool.and_eq_true, decide_eq_true_eq] at h
  have h0 : ¬ x < 0 := Int32.not_lt.mpr (Int32.le_trans (by decide) h.1)
  obtain ⟨u, hu, rfl⟩ := nI_of h0
  refine ⟨u, ?_, ?_, rfl⟩
  · exact (nI_leI (a := 1) (by decide) hu).mp h.1
  · exact (nI_leI (b := 9999) hu (by decide)).mp h.2
theorem jTn_nI {u : Nat} (hu : u < 2 ^ 31) : jTn (nI u) = (decide (1 ≤ u) && decide (u ≤ 9999)) := by
  unfold jTn
  rw [show decide ((1 : Int32) ≤ nI u) = decide (1 ≤ u) from decide_eq_decide.mpr (nI_leI (a := 1) (by decide) hu), show decide (nI u ≤ (9999 : Int32)) = decide (u ≤ 9999) from decide_eq_decide.mpr (nI_leI (b := 9999) hu (by decide))]
theorem jTn_f1 {x : Int32} (h : x < nI 1) : jTn x = false := by
  unfold jTn
  rw [show decide ((1 : Int32) ≤ x) = false from decide_eq_false (Int32.not_le.mpr h)]
  rfl
theorem jTn_f2 {x : Int32} (h : nI 9999 < x) : jTn x = false := by
  unfold jTn
  rw [show decide (x ≤ (9999 : Int32)) = false from decide_eq_false (Int32.not_le.mpr h), Bool.and_false]
theorem jAl_f {x y : Int32} (h : jTn x = false ∨ jTn y = false) : jAl x y = false := by
  unfold jAl
  rcases h with h | h <;> rw [h] <;> simp
set_option maxHeartbeats 1000000 in
theorem c_abs {h : aH} {x : Int32} : aMp mJ9_abs_0f7a4 [.int x] h (.int (jAbs x)) := by
  refine aM_of plJ9_abs_0f7a4 (Nat.le_of_ble_eq_true rfl) ?_
  refine aX_iload_n dJ9_abs_0f7a4_0 rfl ?_
  refine aX_if_ge (tgt := 9) dJ9_abs_0f7a4_1 (by decide) (fun c1 => ?_) (fun c1 => ?_)
  · refine aX_iload_n dJ9_abs_0f7a4_9 rfl ?_
    exact rI dJ9_abs_0f7a4_10 rfl (⟨rfl, by unfold jAbs; first | rw [if_pos (by assumption)] | rw [if_neg (by assumption)]⟩)
  · refine aX_iload_n dJ9_abs_0f7a4_4 rfl ?_
    refine aX_ineg dJ9_abs_0f7a4_5 ?_
    refine aX_goto (tgt := 10) dJ9_abs_0f7a4_6 (by decide) ?_
    exact rI dJ9_abs_0f7a4_10 rfl (⟨rfl, by unfold jAbs; first | rw [if_pos (by assumption)] | rw [if_neg (by assumption)]⟩)

set_option maxHeartbeats 1000000 in
theorem l_powerIn {h : aH} {v q : Nat} (hv : v < 2 ^ 31) (h0 : 0 < q) (hq : q < 2 ^ 31) : ∀ (k9 c rest : Nat), c ≤ 14 → 14 - c = k9 → rest < 2 ^ 31 → c + jPw (14 - c) rest q = jPw 14 v q → aX mX3_powerIn aE0 h 4 [(0, .int (nI v)), (1, .int (nI q)), (2, .int (nI c)), (3, .int (nI rest))] [] 0 0 (fun r h' => h' = h ∧ r = some (.int (nI (jPw 14 v q)))) := by
  intro k9
  induction k9 using Nat.strongRecOn with
  | _ k9 ih =>
    intro c rest hc14 hk hr hc
    refine aX_iload_n dX3_powerIn_4 rfl ?_
    refine aX_bipush (v := nI 14) dX3_powerIn_5 (by decide) ?_
    refine nGe (tgt := 26) dX3_powerIn_7 (by decide) (by first | omega | exact Nat.lt_of_le_of_lt (Nat.mod_le _ _) (by omega)) (by first | omega | exact Nat.lt_of_le_of_lt (Nat.mod_le _ _) (by omega)) (fun c1 => ?_) (fun c1 => ?_)
    · refine aX_iload_n dX3_powerIn_26 rfl ?_
      exact rI dX3_powerIn_27 rfl (⟨rfl, by rw [← hc]; first | (rw [show 14 - c = 0 by omega]; rfl) | (rw [show 14 - c = (13 - c) + 1 by omega]; show _ = some (Value.int (nI (c + (if rest % q = 0 then _ else _)))); rw [if_neg (by omega)]; rfl)⟩)
    · refine aX_iload_n dX3_powerIn_10 rfl ?_
      refine aX_iload_n dX3_powerIn_11 rfl ?_
      refine nRem dX3_powerIn_12 (by first | omega | exact Nat.lt_of_le_of_lt (Nat.mod_le _ _) (by omega)) (by first | omega | exact Nat.lt_of_le_of_lt (Nat.mod_le _ _) (by omega)) (by first | omega | exact Nat.lt_of_le_of_lt (Nat.mod_le _ _) (by omega)) ?_
      refine nIf_ne (tgt := 26) dX3_powerIn_13 (by decide) (by first | omega | exact Nat.lt_of_le_of_lt (Nat.mod_le _ _) (by omega)) (fun c2 => ?_) (fun c2 => ?_)
      · have hdv := Nat.div_le_self rest q
        refine aX_iload_n dX3_powerIn_26 rfl ?_
        exact rI dX3_powerIn_27 rfl (⟨rfl, by rw [← hc]; first | (rw [show 14 - c = 0 by omega]; rfl) | (rw [show 14 - c = (13 - c) + 1 by omega]; show _ = some (Value.int (nI (c + (if rest % q = 0 then _ else _)))); rw [if_neg (by omega)]; rfl)⟩)
      · have hdv := Nat.div_le_self rest q
        refine aX_iload_n dX3_powerIn_16 rfl ?_
        refine aX_iload_n dX3_powerIn_17 rfl ?_
        refine nDiv dX3_powerIn_18 (by first | omega | exact Nat.lt_of_le_of_lt (Nat.mod_le _ _) (by omega)) (by first | omega | exact Nat.lt_of_le_of_lt (Nat.mod_le _ _) (by omega)) (by first | omega | exact Nat.lt_of_le_of_lt (Nat.mod_le _ _) (by omega)) ?_
        refine aX_istore_n (lv' := [(0, .int (nI (v))), (1, .int (nI (q))), (2, .int (nI (c))), (3, .int (nI (rest / q)))]) dX3_powerIn_19 (by decide) rfl ?_
        refine nInc (lv' := [(0, .int (nI (v))), (1, .int (nI (q))), (2, .int (nI (c + 1))), (3, .int (nI (rest / q)))]) dX3_powerIn_20 rfl rfl (by decide) rfl ?_
        refine aX_goto (tgt := 4) dX3_powerIn_23 (by decide) ?_
        exact ih (14 - (c + 1)) (by omega) (c + 1) (rest / q) (by omega) rfl (by omega) (by rw [← hc, show 14 - c = (14 - (c + 1)) + 1 by omega]; show _ = c + (if rest % q = 0 then _ else _); rw [if_pos (by assumption)]; omega)

set_option maxHeartbeats 1000000 in
theorem c_powerIn {h : aH} {v q : Nat} (hv : v < 2 ^ 31) (h0 : 0 < q) (hq : q < 2 ^ 31) : aMp mX3_powerIn [.int (nI v), .int (nI q)] h (.int (nI (jPw 14 v q))) := by
  refine aM_of plX3_powerIn (Nat.le_of_ble_eq_true rfl) ?_
  refine aX_iconst (v := nI 0) dX3_powerIn_0 (by decide) ?_
  refine aX_istore_n (lv' := [(0, .int (nI (v))), (1, .int (nI (q))), (2, .int (nI (0)))]) dX3_powerIn_1 (by decide) rfl ?_
  refine aX_iload_n dX3_powerIn_2 rfl ?_
  refine aX_istore_n (lv' := [(0, .int (nI (v))), (1, .int (nI (q))), (2, .int (nI (0))), (3, .int (nI (v)))]) dX3_powerIn_3 (by decide) rfl ?_
  exact l_powerIn hv h0 hq _ 0 v (by omega) rfl hv (Nat.zero_add _)

set_option maxHeartbeats 1000000 in
theorem l_share {h : aH} {u d : Nat} (hu : u < 2 ^ 31) (hd : d < 2 ^ 31) : ∀ (k9 i : Nat), i ≤ 6 → 6 - i = k9 → jShr u d i = false → aX mX3_shareSmallPrime aE0 h 2 [(0, .int (nI u)), (1, .int (nI d)), (2, .int (nI i))] [] 0 0 (fun r h' => h' = h ∧ r = some (.int (bI (jShr u d 6)))) := by
  intro k9
  induction k9 using Nat.strongRecOn with
  | _ k9 ih =>
    intro i hi hk hF
    refine aX_iload_n dX3_shareSmallPrime_2 rfl ?_
    refine aX_bipush (v := nI 6) dX3_shareSmallPrime_3 (by decide) ?_
    refine nGe (tgt := 36) dX3_shareSmallPrime_5 (by decide) (by first | omega | exact Nat.lt_of_le_of_lt (Nat.mod_le _ _) (by omega)) (by first | omega | exact Nat.lt_of_le_of_lt (Nat.mod_le _ _) (by omega)) (fun c1 => ?_) (fun c1 => ?_)
    · refine aX_iconst (v := nI 0) dX3_shareSmallPrime_36 (by decide) ?_
      exact rZ dX3_shareSmallPrime_37 rfl (Or.inl rfl) (⟨rfl, by rw [← show i = 6 by omega, hF]; rfl⟩)
    · have hp := jP_in c1
      refine aX_iload_n dX3_shareSmallPrime_8 rfl ?_
      refine aX_gets (i := 2) dX3_shareSmallPrime_9 rfl (Or.inr lgX3_49) ?_
      refine aX_iload_n dX3_shareSmallPrime_12 rfl ?_
      refine nEld dX3_shareSmallPrime_13 rfl (by first | omega | exact Nat.lt_of_le_of_lt (Nat.mod_le _ _) (by omega)) (by decide) (prim_val (by omega)) ?_
      refine nRem dX3_shareSmallPrime_14 (by first | omega | exact Nat.lt_of_le_of_lt (Nat.mod_le _ _) (by omega)) (by first | omega | exact Nat.lt_of_le_of_lt (Nat.mod_le _ _) (by omega)) (by first | omega | exact Nat.lt_of_le_of_lt (Nat.mod_le _ _) (by omega)) ?_
      refine nIf_ne (tgt := 30) dX3_shareSmallPrime_15 (by decide) (by first | omega | exact Nat.lt_of_le_of_lt (Nat.mod_le _ _) (by omega)) (fun c2 => ?_) (fun c2 => ?_)
      · refine nInc (lv' := [(0, .int (nI (u))), (1, .int (nI (d))), (2, .int (nI (i + 1)))]) dX3_shareSmallPrime_30 rfl rfl (by decide) rfl ?_
        refine aX_goto (tgt := 2) dX3_shareSmallPrime_33 (by decide) ?_
        exact ih (6 - (i + 1)) (by omega) (i + 1) (by omega) rfl (by unfold jShr; rw [hF]; simp; omega)
      · refine aX_iload_n dX3_shareSmallPrime_18 rfl ?_
        refine aX_gets (i := 2) dX3_shareSmallPrime_19 rfl (Or.inr lgX3_49) ?_
        refine aX_iload_n dX3_shareSmallPrime_22 rfl ?_
        refine nEld dX3_shareSmallPrime_23 rfl (by first | omega | exact Nat.lt_of_le_of_lt (Nat.mod_le _ _) (by omega)) (by decide) (prim_val (by omega)) ?_
        refine nRem dX3_shareSmallPrime_24 (by first | omega | exact Nat.lt_of_le_of_lt (Nat.mod_le _ _) (by omega)) (by first | omega | exact Nat.lt_of_le_of_lt (Nat.mod_le _ _) (by omega)) (by first | omega | exact Nat.lt_of_le_of_lt (Nat.mod_le _ _) (by omega)) ?_
        refine nIf_ne (tgt := 30) dX3_shareSmallPrime_25 (by decide) (by first | omega | exact Nat.lt_of_le_of_lt (Nat.mod_le _ _) (by omega)) (fun c3 => ?_) (fun c3 => ?_)
        · refine nInc (lv' := [(0, .int (nI (u))), (1, .int (nI (d))), (2, .int (nI (i + 1)))]) dX3_shareSmallPrime_30 rfl rfl (by decide) rfl ?_
          refine aX_goto (tgt := 2) dX3_shareSmallPrime_33 (by decide) ?_
          exact ih (6 - (i + 1)) (by omega) (i + 1) (by omega) rfl (by unfold jShr; rw [hF]; simp; omega)
        · refine aX_iconst (v := nI 1) dX3_shareSmallPrime_28 (by decide) ?_
          exact rZ dX3_shareSmallPrime_29 rfl (Or.inr rfl) (⟨rfl, by rw [jShr_at (p := i) (by omega) (by omega) 6 (by omega)]; rfl⟩)

set_option maxHeartbeats 1000000 in
theorem c_share {h : aH} {u d : Nat} (hu : u < 2 ^ 31) (hd : d < 2 ^ 31) : aMp mX3_shareSmallPrime [.int (nI u), .int (nI d)] h (.int (bI (jShr u d 6))) := by
  refine aM_of plX3_shareSmallPrime (Nat.le_of_ble_eq_true rfl) ?_
  refine aX_iconst (v := nI 0) dX3_shareSmallPrime_0 (by decide) ?_
  refine aX_istore_n (lv' := [(0, .int (nI (u))), (1, .int (nI (d))), (2, .int (nI (0)))]) dX3_shareSmallPrime_1 (by decide) rfl ?_
  exact l_share hu hd _ 0 (by omega) rfl rfl

set_option maxHeartbeats 1000000 in
theorem l_small1 {h : aH} {v v0 q : Nat} {Q : Option Value → aH → Prop} (hq6 : q < 6) (kk : ∀ i, i ≤ 14 → aX mX3_hasSmallPrimes aE0 h 42 [(0, .int (nI v)), (1, .int (nI (jStr 14 v0 (jP q)))), (2, .int (nI q)), (3, .int (nI i))] [] 0 0 Q) : ∀ (k9 i rest : Nat), i ≤ 14 → 14 - i = k9 → rest < 2 ^ 31 → jStr (14 - i) rest (jP q) = jStr 14 v0 (jP q) → aX mX3_hasSmallPrimes aE0 h 12 [(0, .int (nI v)), (1, .int (nI rest)), (2, .int (nI q)), (3, .int (nI i))] [] 0 0 Q := by
  intro k9
  induction k9 using Nat.strongRecOn with
  | _ k9 ih =>
    intro i rest hi hk hr hc
    have hp := jP_in hq6
    refine aX_iload_n dX3_hasSmallPrimes_12 rfl ?_
    refine aX_bipush (v := nI 14) dX3_hasSmallPrimes_13 (by decide) ?_
    refine nGe (tgt := 42) dX3_hasSmallPrimes_15 (by decide) (by first | omega | exact Nat.lt_of_le_of_lt (Nat.mod_le _ _) (by omega)) (by first | omega | exact Nat.lt_of_le_of_lt (Nat.mod_le _ _) (by omega)) (fun c1 => ?_) (fun c1 => ?_)
    · obtain rfl : rest = jStr 14 v0 (jP q) := by rw [← hc]; first | (rw [show 14 - i = 0 by omega]; rfl) | (rw [show 14 - i = (13 - i) + 1 by omega]; show rest = (if rest % jP q = 0 then _ else _); rw [if_neg (by omega)])
      exact kk i (by omega)
    · refine aX_iload_n dX3_hasSmallPrimes_18 rfl ?_
      refine aX_gets (i := 2) dX3_hasSmallPrimes_19 rfl (Or.inr lgX3_49) ?_
      refine aX_iload_n dX3_hasSmallPrimes_22 rfl ?_
      refine nEld dX3_hasSmallPrimes_23 rfl (by first | omega | exact Nat.lt_of_le_of_lt (Nat.mod_le _ _) (by omega)) (by decide) (prim_val (by omega)) ?_
      refine nRem dX3_hasSmallPrimes_24 (by first | omega | exact Nat.lt_of_le_of_lt (Nat.mod_le _ _) (by omega)) (by first | omega | exact Nat.lt_of_le_of_lt (Nat.mod_le _ _) (by omega)) (by first | omega | exact Nat.lt_of_le_of_lt (Nat.mod_le _ _) (by omega)) ?_
      refine nIf_ne (tgt := 42) dX3_hasSmallPrimes_25 (by decide) (by first | omega | exact Nat.lt_of_le_of_lt (Nat.mod_le _ _) (by omega)) (fun c2 => ?_) (fun c2 => ?_)
      · have hdv := Nat.div_le_self rest (jP q)
        obtain rfl : rest = jStr 14 v0 (jP q) := by rw [← hc]; first | (rw [show 14 - i = 0 by omega]; rfl) | (rw [show 14 - i = (13 - i) + 1 by omega]; show rest = (if rest % jP q = 0 then _ else _); rw [if_neg (by omega)])
        exact kk i (by omega)
      · have hdv := Nat.div_le_self rest (jP q)
        refine aX_iload_n dX3_hasSmallPrimes_28 rfl ?_
        refine aX_gets (i := 2) dX3_hasSmallPrimes_29 rfl (Or.inr lgX3_49) ?_
        refine aX_iload_n dX3_hasSmallPrimes_32 rfl ?_
        refine nEld dX3_hasSmallPrimes_33 rfl (by first | omega | exact Nat.lt_of_le_of_lt (Nat.mod_le _ _) (by omega)) (by decide) (prim_val (by omega)) ?_
        refine nDiv dX3_hasSmallPrimes_34 (by first | omega | exact Nat.lt_of_le_of_lt (Nat.mod_le _ _) (by omega)) (by first | omega | exact Nat.lt_of_le_of_lt (Nat.mod_le _ _) (by omega)) (by first | omega | exact Nat.lt_of_le_of_lt (Nat.mod_le _ _) (by omega)) ?_
        refine aX_istore_n (lv' := [(0, .int (nI (v))), (1, .int (nI (rest / (jP q)))), (2, .int (nI (q))), (3, .int (nI (i)))]) dX3_hasSmallPrimes_35 (by decide) rfl ?_
        refine nInc (lv' := [(0, .int (nI (v))), (1, .int (nI (rest / (jP q)))), (2, .int (nI (q))), (3, .int (nI (i + 1)))]) dX3_hasSmallPrimes_36 rfl rfl (by decide) rfl ?_
        refine aX_goto (tgt := 12) dX3_hasSmallPrimes_39 (by decide) ?_
        exact ih (14 - (i + 1)) (by omega) (i + 1) (rest / jP q) (by omega) rfl (by omega) (by rw [← hc, show 14 - i = (14 - (i + 1)) + 1 by omega]; show _ = (if rest % jP q = 0 then _ else _); rw [if_pos (by assumption)])

set_option maxHeartbeats 1000000 in
theorem l_small {h : aH} {v : Nat} (hv : v < 2 ^ 31) : ∀ (k9 q : Nat), q ≤ 6 → 6 - q = k9 → aX mX3_hasSmallPrimes aE0 h 4 [(0, .int (nI v)), (1, .int (nI (jSmR v q))), (2, .int (nI q))] [] 0 0 (fun r h' => h' = h ∧ r = some (.int (bI (jSmall v)))) := by
  intro k9
  induction k9 using Nat.strongRecOn with
  | _ k9 ih =>
    intro q hq hk
    have hle := jSmR_le v q
    refine aX_iload_n dX3_hasSmallPrimes_4 rfl ?_
    refine aX_bipush (v := nI 6) dX3_hasSmallPrimes_5 (by decide) ?_
    refine nGe (tgt := 48) dX3_hasSmallPrimes_7 (by decide) (by first | omega | exact Nat.lt_of_le_of_lt (Nat.mod_le _ _) (by omega)) (by first | omega | exact Nat.lt_of_le_of_lt (Nat.mod_le _ _) (by omega)) (fun c1 => ?_) (fun c1 => ?_)
    · refine aX_iload_n dX3_hasSmallPrimes_48 rfl ?_
      refine aX_iconst (v := nI 1) dX3_hasSmallPrimes_49 (by decide) ?_
      refine nNe (tgt := 57) dX3_hasSmallPrimes_50 (by decide) (by first | omega | exact Nat.lt_of_le_of_lt (Nat.mod_le _ _) (by omega)) (by first | omega | exact Nat.lt_of_le_of_lt (Nat.mod_le _ _) (by omega)) (fun c2 => ?_) (fun c2 => ?_)
      · refine aX_iconst (v := nI 0) dX3_hasSmallPrimes_57 (by decide) ?_
        exact rZ dX3_hasSmallPrimes_58 rfl (Or.inl rfl) (⟨rfl, by unfold jSmall; rw [show (6 : Nat) = q by omega]; rw [show decide (jSmR v q = 1) = false by simp; omega]; rfl⟩)
      · refine aX_iconst (v := nI 1) dX3_hasSmallPrimes_53 (by decide) ?_
        refine aX_goto (tgt := 58) dX3_hasSmallPrimes_54 (by decide) ?_
        exact rZ dX3_hasSmallPrimes_58 rfl (Or.inr rfl) (⟨rfl, by unfold jSmall; rw [show (6 : Nat) = q by omega]; rw [show decide (jSmR v q = 1) = true by simp; omega]; rfl⟩)
    · refine aX_iconst (v := nI 0) dX3_hasSmallPrimes_10 (by decide) ?_
      refine aX_istore_n (lv' := [(0, .int (nI (v))), (1, .int (nI (jSmR v q))), (2, .int (nI (q))), (3, .int (nI (0)))]) dX3_hasSmallPrimes_11 (by decide) rfl ?_
      refine l_small1 (v0 := jSmR v q) (by omega) (fun i hi14 => ?_) _ 0 (jSmR v q) (by omega) rfl (by omega) rfl
      show aX mX3_hasSmallPrimes aE0 h 42 [(0, .int (nI v)), (1, .int (nI (jSmR v (q + 1)))), (2, .int (nI q)), (3, .int (nI i))] [] 0 0 _
      refine nInc (lv' := [(0, .int (nI (v))), (1, .int (nI (jSmR v (q + 1)))), (2, .int (nI (q + 1))), (3, .int (nI (i)))]) dX3_hasSmallPrimes_42 rfl rfl (by decide) rfl ?_
      refine aX_goto (tgt := 4) dX3_hasSmallPrimes_45 (by decide) ?_
      refine aX_lv (lv' := [(0, .int (nI v)), (1, .int (nI (jSmR v (q + 1)))), (2, .int (nI (q + 1)))]) [0, 1, 2] rfl ?_
      exact ih (6 - (q + 1)) (by omega) (q + 1) (by omega) rfl

set_option maxHeartbeats 1000000 in
theorem c_small {h : aH} {v : Nat} (hv : v < 2 ^ 31) : aMp mX3_hasSmallPrimes [.int (nI v)] h (.int (bI (jSmall v))) := by
  refine aM_of plX3_hasSmallPrimes (Nat.le_of_ble_eq_true rfl) ?_
  refine aX_iload_n dX3_hasSmallPrimes_0 rfl ?_
  refine aX_istore_n (lv' := [(0, .int (nI (v))), (1, .int (nI (v)))]) dX3_hasSmallPrimes_1 (by decide) rfl ?_
  refine aX_iconst (v := nI 0) dX3_hasSmallPrimes_2 (by decide) ?_
  refine aX_istore_n (lv' := [(0, .int (nI (v))), (1, .int (nI (v))), (2, .int (nI (0)))]) dX3_hasSmallPrimes_3 (by decide) rfl ?_
  exact l_small hv _ 0 (by omega) rfl

set_option maxHeartbeats 1000000 in
theorem l_allow {h : aH} {u d : Nat} (hu1 : 1 ≤ u) (hu2 : u ≤ 9999) (hd1 : 1 ≤ d) (hd2 : d ≤ 9999) : aX mX3_isAllowed aE0 h 26 [(0, .int (nI u)), (1, .int (nI d))] [] 0 0 (fun r h' => h' = h ∧ r = some (.int (bI (jAl (nI u) (nI d))))) := by
  have e9 : jAl (nI u) (nI d) = jAlN u d := by unfold jAl; rw [jTn_nI (by omega), jTn_nI (by omega), nI_clamp (by omega), nI_clamp (by omega)]; simp [hu1, hu2, hd1, hd2]
  refine aX_iload_n dX3_isAllowed_26 rfl ?_
  refine aX_iload_n dX3_isAllowed_27 rfl ?_
  refine nLt (tgt := 38) dX3_isAllowed_28 (by decide) (by first | omega | exact Nat.lt_of_le_of_lt (Nat.mod_le _ _) (by omega)) (by first | omega | exact Nat.lt_of_le_of_lt (Nat.mod_le _ _) (by omega)) (fun c1 => ?_) (fun c1 => ?_)
  · refine aX_iconst (v := nI 0) dX3_isAllowed_38 (by decide) ?_
    exact rZ dX3_isAllowed_39 rfl (Or.inl rfl) (⟨rfl, by rw [show jAl (nI u) (nI d) = false by rw [e9]; unfold jAlN; simp_all; try omega]; rfl⟩)
  · refine aX_iload_n dX3_isAllowed_31 rfl ?_
    refine aX_iconst (v := nI 2) dX3_isAllowed_32 (by decide) ?_
    refine aX_iload_n dX3_isAllowed_33 rfl ?_
    refine nMul dX3_isAllowed_34 ?_
    refine nLt (tgt := 40) dX3_isAllowed_35 (by decide) (by first | omega | exact Nat.lt_of_le_of_lt (Nat.mod_le _ _) (by omega)) (by first | omega | exact Nat.lt_of_le_of_lt (Nat.mod_le _ _) (by omega)) (fun c2 => ?_) (fun c2 => ?_)
    · refine aX_iload_n dX3_isAllowed_40 rfl ?_
      refine cSp (As := [.int (nI (u))]) (st := []) (v := .int (bI (jSmall u))) dX3_isAllowed_41 kX3_isAllowed_41 aEok0 rfl rfl (Nat.le_of_ble_eq_true rfl) (c_small (by omega)) ?_
      refine bEq (tgt := 66) dX3_isAllowed_44 (by decide) (fun c3 => ?_) (fun c3 => ?_)
      · refine aX_iconst (v := nI 0) dX3_isAllowed_66 (by decide) ?_
        exact rZ dX3_isAllowed_67 rfl (Or.inl rfl) (⟨rfl, by rw [show jAl (nI u) (nI d) = false by rw [e9]; unfold jAlN; simp_all; try omega]; rfl⟩)
      · refine aX_iload_n dX3_isAllowed_47 rfl ?_
        refine cSp (As := [.int (nI (d))]) (st := []) (v := .int (bI (jSmall d))) dX3_isAllowed_48 kX3_isAllowed_41 aEok0 rfl rfl (Nat.le_of_ble_eq_true rfl) (c_small (by omega)) ?_
        refine bEq (tgt := 66) dX3_isAllowed_51 (by decide) (fun c4 => ?_) (fun c4 => ?_)
        · refine aX_iconst (v := nI 0) dX3_isAllowed_66 (by decide) ?_
          exact rZ dX3_isAllowed_67 rfl (Or.inl rfl) (⟨rfl, by rw [show jAl (nI u) (nI d) = false by rw [e9]; unfold jAlN; simp_all; try omega]; rfl⟩)
        · refine aX_iload_n dX3_isAllowed_54 rfl ?_
          refine aX_iload_n dX3_isAllowed_55 rfl ?_
          refine cSp (As := [.int (nI (u)), .int (nI (d))]) (st := []) (v := .int (bI (jShr u d 6))) dX3_isAllowed_56 kX3_isAllowed_45 aEok0 rfl rfl (Nat.le_of_ble_eq_true rfl) (c_share (by omega) (by omega)) ?_
          refine bNe (tgt := 66) dX3_isAllowed_59 (by decide) (fun c5 => ?_) (fun c5 => ?_)
          · refine aX_iconst (v := nI 0) dX3_isAllowed_66 (by decide) ?_
            exact rZ dX3_isAllowed_67 rfl (Or.inl rfl) (⟨rfl, by rw [show jAl (nI u) (nI d) = false by rw [e9]; unfold jAlN; simp_all; try omega]; rfl⟩)
          · refine aX_iconst (v := nI 1) dX3_isAllowed_62 (by decide) ?_
            refine aX_goto (tgt := 67) dX3_isAllowed_63 (by decide) ?_
            exact rZ dX3_isAllowed_67 rfl (Or.inr rfl) (⟨rfl, by rw [show jAl (nI u) (nI d) = true by rw [e9]; unfold jAlN; simp_all; try omega]; rfl⟩)
    · refine aX_iconst (v := nI 0) dX3_isAllowed_38 (by decide) ?_
      exact rZ dX3_isAllowed_39 rfl (Or.inl rfl) (⟨rfl, by rw [show jAl (nI u) (nI d) = false by rw [e9]; unfold jAlN; simp_all; try omega]; rfl⟩)

set_option maxHeartbeats 1000000 in
theorem c_isAllowed {h : aH} {x y : Int32} : aMp mX3_isAllowed [.int x, .int y] h (.int (bI (jAl x y))) := by
  refine aM_of plX3_isAllowed (Nat.le_of_ble_eq_true rfl) ?_
  refine aX_iload_n dX3_isAllowed_0 rfl ?_
  refine aX_iconst (v := nI 1) dX3_isAllowed_1 (by decide) ?_
  refine aX_icmp_lt (tgt := 24) dX3_isAllowed_2 (by decide) (fun c1 => ?_) (fun c1 => ?_)
  · refine aX_iconst (v := nI 0) dX3_isAllowed_24 (by decide) ?_
    exact rZ dX3_isAllowed_25 rfl (Or.inl rfl) (⟨rfl, by rw [jAl_f (by first | exact Or.inl (jTn_f1 (by assumption)) | exact Or.inl (jTn_f2 (by assumption)) | exact Or.inr (jTn_f1 (by assumption)) | exact Or.inr (jTn_f2 (Int32.not_le.mp (by assumption))))]; rfl⟩)
  · refine aX_iload_n dX3_isAllowed_5 rfl ?_
    refine aX_sipush (v := nI 9999) dX3_isAllowed_6 (by decide) ?_
    refine aX_icmp_gt (tgt := 24) dX3_isAllowed_9 (by decide) (fun c2 => ?_) (fun c2 => ?_)
    · refine aX_iconst (v := nI 0) dX3_isAllowed_24 (by decide) ?_
      exact rZ dX3_isAllowed_25 rfl (Or.inl rfl) (⟨rfl, by rw [jAl_f (by first | exact Or.inl (jTn_f1 (by assumption)) | exact Or.inl (jTn_f2 (by assumption)) | exact Or.inr (jTn_f1 (by assumption)) | exact Or.inr (jTn_f2 (Int32.not_le.mp (by assumption))))]; rfl⟩)
    · refine aX_iload_n dX3_isAllowed_12 rfl ?_
      refine aX_iconst (v := nI 1) dX3_isAllowed_13 (by decide) ?_
      refine aX_icmp_lt (tgt := 24) dX3_isAllowed_14 (by decide) (fun c3 => ?_) (fun c3 => ?_)
      · refine aX_iconst (v := nI 0) dX3_isAllowed_24 (by decide) ?_
        exact rZ dX3_isAllowed_25 rfl (Or.inl rfl) (⟨rfl, by rw [jAl_f (by first | exact Or.inl (jTn_f1 (by assumption)) | exact Or.inl (jTn_f2 (by assumption)) | exact Or.inr (jTn_f1 (by assumption)) | exact Or.inr (jTn_f2 (Int32.not_le.mp (by assumption))))]; rfl⟩)
      · refine aX_iload_n dX3_isAllowed_17 rfl ?_
        refine aX_sipush (v := nI 9999) dX3_isAllowed_18 (by decide) ?_
        refine aX_icmp_le (tgt := 26) dX3_isAllowed_21 (by decide) (fun c4 => ?_) (fun c4 => ?_)
        · obtain ⟨u, hu1, hu2, rfl⟩ := jTn_t (x := x) (by unfold jTn; simp only [Bool.and_eq_true, decide_eq_true_eq]; exact ⟨Int32.not_lt.mp (by assumption), Int32.not_lt.mp (by assumption)⟩)
          obtain ⟨d, hd1, hd2, rfl⟩ := jTn_t (x := y) (by unfold jTn; simp only [Bool.and_eq_true, decide_eq_true_eq]; exact ⟨Int32.not_lt.mp (by assumption), by assumption⟩)
          exact l_allow hu1 hu2 hd1 hd2
        · refine aX_iconst (v := nI 0) dX3_isAllowed_24 (by decide) ?_
          exact rZ dX3_isAllowed_25 rfl (Or.inl rfl) (⟨rfl, by rw [jAl_f (by first | exact Or.inl (jTn_f1 (by assumption)) | exact Or.inl (jTn_f2 (by assumption)) | exact Or.inr (jTn_f1 (by assumption)) | exact Or.inr (jTn_f2 (Int32.not_le.mp (by assumption))))]; rfl⟩)

