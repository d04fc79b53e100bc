/-! THE SOLVER: digits -/
def mdRep (I : Nat → Nat → Int32) (L : Nat → Nat → Int64) (u : Nat) (m : Nat → Nat) : Prop := I 77 7 = nI u ∧ (∀ j, j < u → L 112 j = lN (m j)) ∧ (∀ j, j < u → L 113 j = lN ((prn j m % m j) ^ (m j - 2) % m j))
def mOk (u : Nat) (m : Nat → Nat) : Prop := (∀ j, j < u → isP (m j) ∧ m j ≤ 1073741824 ∧ m j % 2 = 1) ∧ (∀ i j, i < u → j < u → m i = m j → i = j)
theorem mod_mul' (a b p : Nat) : a % p * b % p = a * b % p := by rw [Nat.mul_mod, Nat.mod_mod, ← Nat.mul_mod]
theorem ndvd_mod {p a : Nat} (h : ¬ p ∣ a) : ¬ p ∣ a % p := fun z => h ((Nat.dvd_mod_iff (Nat.dvd_refl p)).mp z)
theorem inv_cg {u : Nat} {m : Nat → Nat} (h : mOk u m) {i : Nat} (hi : i < u) : cg (m i) ((prn i m : Int) * (((prn i m % m i) ^ (m i - 2) % m i : Nat) : Int)) 1 := by
  have hP := (h.1 i hi).1
  have hc := cop_prn hP i (m := m) (fun j hj => ⟨(h.1 j (by omega)).1, fun e => by have := h.2 j i (by omega) hi e; omega⟩)
  have hf := fermat_inv hP (ndvd_mod hc)
  have z := natmod_cg (prn i m % m i * ((prn i m % m i) ^ (m i - 2) % m i)) (m i)
  rw [hf, Int.natCast_mul] at z
  exact cg_symm (cg_trans z (cg_mul (natmod_cg _ _) (cg_refl _ _)))
/-- a digit -/
theorem dg_cg {p mr M inv v : Nat} {kn : Nat} {y sg : Int} (hk : cg p (kn : Int) (mr : Int)) (hi : cg p ((M : Int) * inv) 1) (hv : cg p (v : Int) y) (hp : 0 < p) : cg p ((mr : Int) + (((((sg * (v : Int) - (kn : Int)) % p).toNat * inv % p : Nat) : Int)) * M) (sg * y) := by
  have h0 := Int.emod_nonneg (sg * (v : Int) - (kn : Int)) (show (p : Int) ≠ 0 by omega)
  have h1 : cg p (((((sg * (v : Int) - (kn : Int)) % p).toNat * inv % p : Nat) : Int)) ((sg * (v : Int) - (kn : Int)) * inv) := by
    refine cg_trans (natmod_cg _ _) ?_
    rw [Int.natCast_mul, Int.toNat_of_nonneg h0]
    exact cg_mul (cg_mod _ _) (cg_refl _ _)
  have h2 := cg_mul h1 (cg_refl p (M : Int))
  have h3 : cg p ((sg * (v : Int) - (kn : Int)) * inv * M) (sg * (v : Int) - kn) := by
    have := cg_mul (cg_refl p (sg * (v : Int) - (kn : Int))) hi
    rw [Int.mul_one] at this
    exact cg_trans (cg_of_eq (by grind)) this
  have h4 := cg_add (cg_symm hk) (cg_trans h2 h3)
  have h5 : cg p ((kn : Int) + (sg * (v : Int) - kn)) (sg * y) := cg_trans (cg_of_eq (by omega)) (cg_mul (cg_refl _ _) hv)
  exact cg_trans h4 h5
/-- all digits give the number -/
theorem dg_val {u : Nat} {m d : Nat → Nat} (h : mOk u m) (hd : ∀ j, j < u → d j < m j) {y : Int} (hc : ∀ j, j < u → cg (m j) ((mrx d m j : Int) + d j * prn j m) y) : cg (prn u m) (mrx d m u : Int) y :=
  prn_cg (fun i hi => (h.1 i hi).1) h.2 (fun i hi => mrx_cg (r := fun _ => y) hc hi)
theorem pt_flag {u : Nat} {m d : Nat → Nat} (hm : m u % 2 = 1) {N : Int} (hlt : mrx d m (u + 1) < prn (u + 1) m) (hlow : mrx d m u < prn u m) (hc : cg (prn (u + 1) m) (mrx d m (u + 1) : Int) N) (hb : (N.natAbs : Int) ≤ ((m u / 2 * prn u m : Nat) : Int)) : (d u ≤ m u / 2 ↔ 0 ≤ N) ∧ (0 ≤ N → (mrx d m (u + 1) : Int) = N) := by
  have e1 : prn (u + 1) m = prn u m * m u := rfl
  have e2 : mrx d m (u + 1) = mrx d m u + d u * prn u m := rfl
  have hP : 0 < prn u m := by omega
  obtain ⟨k, hk⟩ : ∃ k, m u = 2 * k + 1 := ⟨m u / 2, by omega⟩
  have hk2 : m u / 2 = k := by omega
  rw [hk2] at hb ⊢
  have hM : (prn (u + 1) m : Int) = 2 * ((k * prn u m : Nat) : Int) + prn u m := by rw [e1, hk]; push_cast; grind
  generalize hkp : k * prn u m = kp at hb hM
  by_cases hN : 0 ≤ N
  · have hv : (mrx d m (u + 1) : Int) = N := cg_small hc (by omega) (by omega)
    refine ⟨⟨fun _ => hN, fun _ => Nat.le_of_not_lt (fun g => ?_)⟩, fun _ => hv⟩
    have h1 : (k + 1) * prn u m ≤ d u * prn u m := Nat.mul_le_mul_right _ g
    rw [Nat.add_mul, Nat.one_mul, hkp] at h1
    omega
  · have hc' : cg (prn (u + 1) m) (mrx d m (u + 1) : Int) (N + prn (u + 1) m) := cg_trans hc ⟨-1, by omega⟩
    have hv : (mrx d m (u + 1) : Int) = N + prn (u + 1) m := cg_small hc' (by omega) (by omega)
    refine ⟨⟨fun g => absurd ?_ hN, fun g => absurd g hN⟩, fun g => absurd g hN⟩
    have h1 : d u * prn u m ≤ k * prn u m := Nat.mul_le_mul_right _ g
    rw [hkp] at h1
    omega
set_option maxHeartbeats 1000000 in
theorem l_useM {I : Nat → Nat → Int32} {L : Nat → Nat → Int64} {R : Nat → Nat → Option Nat} (hR : aRf R) {u : Nat} (hu : u < 11) {m : Nat → Nat} (hm : mdRep I L u m) (hmk : mOk u m) {p : Nat} (hp : 2 ≤ p) (hp2 : p ≤ 1073741824) : ∀ (k9 i : Nat), i ≤ u → u - i = k9 → aX mX6_useModulus aE0 (sh0, I, L, R) 5 [(0, .ref 77), (1, .long (lN (p))), (3, .long (lN (prn i m % p))), (5, .int (nI (i)))] [] 0 0 (fun ans h' => ans = none ∧ ∃ L', h' = (sh0, aU I 77 7 (nI (u + 1)), L', R) ∧ mdRep (aU I 77 7 (nI (u + 1))) L' (u + 1) (va_up m u p) ∧ lK 112 113 L L') := by
  intro k9
  induction k9 using Nat.strongRecOn with
  | _ k9 ih =>
    intro i hi hk9  
    have hlt : prn i m % p < p := Nat.mod_lt _ (by omega)
    have hmm : i < u → prn i m % p * m i < 2 ^ 63 := fun g => by
      have := (hmk.1 i g).2.1
      have : prn i m % p * m i ≤ 1073741824 * 1073741824 := Nat.mul_le_mul (by omega) this
      omega
    refine aX_iload dX6_useModulus_5 rfl ?_
    refine aX_aload_n dX6_useModulus_7 rfl ?_
    refine aX_get (v := .int (nI (u))) dX6_useModulus_8 lfX6_40 s77 (congrArg Value.int (hm.1)) ?_
    refine nGe (tgt := 32) dX6_useModulus_11 (by decide) (by first | omega | exact Nat.lt_of_le_of_lt (Nat.mod_le _ _) (by omega)) (by first | omega | exact Nat.lt_of_le_of_lt (Nat.mod_le _ _) (by omega)) (fun c1 => ?_) (fun c1 => ?_)
    · obtain rfl : u = i := by omega
      refine aX_aload_n dX6_useModulus_32 rfl ?_
      refine aX_get dX6_useModulus_33 lfX6_25 s77 (f77_4 hR) ?_
      refine aX_aload_n dX6_useModulus_36 rfl ?_
      refine aX_get (v := .int (nI (u))) dX6_useModulus_37 lfX6_40 s77 (congrArg Value.int (hm.1)) ?_
      refine aX_lload_n dX6_useModulus_40 rfl ?_
      refine nLast dX6_useModulus_41 s112 (by first | omega | exact Nat.lt_of_le_of_lt (Nat.mod_le _ _) (by omega)) (by decide) ?_
      refine aX_aload_n dX6_useModulus_42 rfl ?_
      refine aX_get dX6_useModulus_43 lfX6_29 s77 (f77_5 hR) ?_
      refine aX_aload_n dX6_useModulus_46 rfl ?_
      refine aX_get (v := .int (nI (u))) dX6_useModulus_47 lfX6_40 s77 (congrArg Value.int (hm.1)) ?_
      refine aX_lload_n dX6_useModulus_50 rfl ?_
      refine aX_lload_n dX6_useModulus_51 rfl ?_
      refine cSp (As := [.long (lN (prn u m % p)), .long (lN (p))]) (st := [.int (nI (u)), .ref 113]) (v := .long (lN ((prn u m % p) ^ (p - 2) % p))) dX6_useModulus_52 kX6_useModulus_65 aEok0 rfl rfl (Nat.le_of_ble_eq_true rfl) (c_inverse hp hp2 (Nat.mod_lt _ (by omega))) ?_
      refine nLast dX6_useModulus_55 s113 (by first | omega | exact Nat.lt_of_le_of_lt (Nat.mod_le _ _) (by omega)) (by decide) ?_
      refine aX_aload_n dX6_useModulus_56 rfl ?_
      refine aX_dup dX6_useModulus_57 rfl ?_
      refine aX_get (v := .int (nI (u))) dX6_useModulus_58 lfX6_40 s77 (congrArg Value.int (hm.1)) ?_
      refine aX_iconst (v := nI 1) dX6_useModulus_61 (by decide) ?_
      refine nAdd dX6_useModulus_62 ?_
      refine pI dX6_useModulus_63 lfX6_40 (fun _ _ _ hq => by cases hq; exact Or.inl rfl) s77 rfl ?_
      exact rV dX6_useModulus_66 rfl (⟨rfl, _, rfl, ⟨aU_s, fun j hj => by
          by_cases e : j = u
          · subst e; rw [aU_n (by omega), aU_s]; simp [va_up]
          · rw [aU_n (by omega), aU_n (by omega), show va_up m u p j = m j by simp [va_up, e]]; exact hm.2.1 j (by omega), fun j hj => by
          have hpe : ∀ k, k ≤ u → prn k (va_up m u p) = prn k m := fun k hk => prn_ext (fun a ha => by simp [va_up, show ¬ a = u by omega])
          by_cases e : j = u
          · subst e; rw [aU_s, hpe j (Nat.le_refl _), show va_up m j p j = p by simp [va_up]]
          · rw [aU_n (by omega), aU_n (by omega), hpe j (by omega), show va_up m u p j = m j by simp [va_up, e]]; exact hm.2.2 j (by omega)⟩, lK_set (lK_set lK_refl (by omega) (by omega)) (by omega) (by omega)⟩)
    · refine aX_lload_n dX6_useModulus_14 rfl ?_
      refine aX_aload_n dX6_useModulus_15 rfl ?_
      refine aX_get dX6_useModulus_16 lfX6_25 s77 (f77_4 hR) ?_
      refine aX_iload dX6_useModulus_19 rfl ?_
      refine nLald (v := lN (m i)) dX6_useModulus_21 s112 (by first | omega | exact Nat.lt_of_le_of_lt (Nat.mod_le _ _) (by omega)) (by decide) (hm.2.1 i (by omega)) ?_
      refine kMul dX6_useModulus_22 ?_
      refine aX_lload_n dX6_useModulus_23 rfl ?_
      refine kRem dX6_useModulus_24 (by exact hmm (by omega)) (by first | omega | exact Nat.lt_of_le_of_lt (Nat.mod_le _ _) (by omega)) (by first | omega | exact Nat.lt_of_le_of_lt (Nat.mod_le _ _) (by omega)) ?_
      refine aX_lstore_n (lv' := [(0, .ref 77), (1, .long (lN (p))), (3, .long (lN (((prn i m % p) * (m i)) % p))), (5, .int (nI (i)))]) dX6_useModulus_25 (by decide) rfl ?_
      refine nInc (lv' := [(0, .ref 77), (1, .long (lN (p))), (3, .long (lN (((prn i m % p) * (m i)) % p))), (5, .int (nI (i + 1)))]) dX6_useModulus_26 rfl rfl (by decide) rfl ?_
      refine aX_goto (tgt := 5) dX6_useModulus_29 (by decide) ?_
      rw [show prn i m % p * m i % p = prn (i + 1) m % p from mod_mul' _ _ _]
      exact ih (u - (i + 1)) (by omega) (i + 1) (by omega) rfl
set_option maxHeartbeats 1000000 in
theorem c_useModulus {I : Nat → Nat → Int32} {L : Nat → Nat → Int64} {R : Nat → Nat → Option Nat} (hR : aRf R) {u : Nat} (hu : u < 11) {m : Nat → Nat} (hm : mdRep I L u m) (hmk : mOk u m) {p : Nat} (hp : 2 ≤ p) (hp2 : p ≤ 1073741824) : aM mX6_useModulus [.ref 77, .long (lN p)] (sh0, I, L, R) (fun ans h' => ans = none ∧ ∃ L', h' = (sh0, aU I 77 7 (nI (u + 1)), L', R) ∧ mdRep (aU I 77 7 (nI (u + 1))) L' (u + 1) (va_up m u p) ∧ lK 112 113 L L') := by
  refine aM_of plX6_useModulus (Nat.le_of_ble_eq_true rfl) ?_
  refine aX_lconst (v := lN 1) dX6_useModulus_0 rfl ?_
  refine aX_lstore_n (lv' := [(0, .ref 77), (1, .long (lN (p))), (3, .long (lN (1)))]) dX6_useModulus_1 (by decide) rfl ?_
  refine aX_iconst (v := nI 0) dX6_useModulus_2 (by decide) ?_
  refine aX_istore (lv' := [(0, .ref 77), (1, .long (lN (p))), (3, .long (lN (1))), (5, .int (nI (0)))]) dX6_useModulus_3 (by decide) rfl ?_
  refine aX_lv (lv' := [(0, .ref 77), (1, .long (lN p)), (3, .long (lN (prn 0 m % p))), (5, .int (nI 0))]) [0, 1, 2, 3] (by rw [show prn 0 m % p = 1 from Nat.mod_eq_of_lt (show 1 < p by omega)]; rfl) ?_
  exact l_useM hR hu hm hmk hp hp2 _ 0 (by omega) rfl
def dgOk (L : Nat → Nat → Int64) (u : Nat) (m d : Nat → Nat) (y : Int) : Prop := ∀ j, j < u → L 114 j = lN (d j) ∧ d j < m j ∧ cg (m j) ((mrx d m j : Int) + d j * prn j m) y
set_option maxHeartbeats 1000000 in
theorem l_fdIn {I : Nat → Nat → Int32} {L : Nat → Nat → Int64} {R : Nat → Nat → Option Nat} (hR : aRf R) {u : Nat} {m : Nat → Nat} (hu : u ≤ 11) (hmk : mOk u m) {a i : Nat} (hi : i < u) {sg : Int} {d : Nat → Nat} {L1 : Nat → Nat → Int64} (hm1 : ∀ j, j < u → L1 112 j = lN (m j)) (hd : ∀ j, j < i → L1 114 j = lN (d j) ∧ d j < m j) {Q : Option Value → aH → Prop} (kk : ∀ (kn : Nat), kn = mrx d m i % m i → aX mX6_findDigits aE0 (sh0, I, L1, R) 60 [(0, .ref 77), (1, .int (nI a)), (2, .int (iZ sg)), (3, .int (nI i)), (4, .long (lN (m i))), (6, .long (lN kn)), (8, .int (-1))] [] 0 0 Q) : ∀ (k9 c : Nat), c ≤ i → c = k9 → ∀ (kn : Nat), kn = hrn d m i (i - c) % m i → aX mX6_findDigits aE0 (sh0, I, L1, R) 26 [(0, .ref 77), (1, .int (nI (a))), (2, .int (iZ (sg))), (3, .int (nI (i))), (4, .long (lN (m i))), (6, .long (lN (kn))), (8, .int (jDn c))] [] 0 0 Q := by
  intro k9
  induction k9 using Nat.strongRecOn with
  | _ k9 ih =>
    intro c hci hk9 kn  hk
    have hpi := (hmk.1 i hi).2.1
    have hp0 := (hmk.1 i hi).1.1
    have hkl : kn < m i := by rw [hk]; exact Nat.mod_lt _ (by omega)
    cases c with
    | zero =>
      refine aX_iload dX6_findDigits_26 rfl ?_
      refine aX_if_lt (tgt := 60) dX6_findDigits_28 (by decide) (fun c1 => ?_) (fun c1 => ?_)
      · exact kk kn (by rw [hk, Nat.sub_zero, hrn_all])
      · exact absurd (by decide) c1
    | succ c =>
      have hpc := (hmk.1 c (by omega)).2.1
      have hdc := (hd c (by omega)).2
      have hmm : kn * m c + d c < 2 ^ 63 := by
        have : kn * m c ≤ 1073741824 * 1073741824 := Nat.mul_le_mul (by omega) (by omega)
        omega
      refine aX_iload dX6_findDigits_26 rfl ?_
      refine aX_if_lt (tgt := 60) dX6_findDigits_28 (by decide) (fun c2 => ?_) (fun c2 => ?_)
      · exact absurd c2 (nI_pos (by omega))
      · refine aX_lload dX6_findDigits_31 rfl ?_
        refine aX_aload_n dX6_findDigits_33 rfl ?_
        refine aX_get dX6_findDigits_34 lfX6_25 s77 (f77_4 hR) ?_
        refine aX_iload dX6_findDigits_37 rfl ?_
        refine nLald (v := lN (m c)) dX6_findDigits_39 s112 (by first | omega | exact Nat.lt_of_le_of_lt (Nat.mod_le _ _) (by omega)) (by decide) (hm1 c (by omega)) ?_
        refine kMul dX6_findDigits_40 ?_
        refine aX_aload_n dX6_findDigits_41 rfl ?_
        refine aX_get dX6_findDigits_42 lfX6_32 s77 (f77_6 hR) ?_
        refine aX_iload dX6_findDigits_45 rfl ?_
        refine nLald (v := lN (d c)) dX6_findDigits_47 s114 (by first | omega | exact Nat.lt_of_le_of_lt (Nat.mod_le _ _) (by omega)) (by decide) ((hd c (by omega)).1) ?_
        refine kAdd dX6_findDigits_48 ?_
        refine aX_lload dX6_findDigits_49 rfl ?_
        refine kRem dX6_findDigits_51 (by exact hmm) (by first | omega | exact Nat.lt_of_le_of_lt (Nat.mod_le _ _) (by omega)) (by first | omega | exact Nat.lt_of_le_of_lt (Nat.mod_le _ _) (by omega)) ?_
        refine aX_lstore (lv' := [(0, .ref 77), (1, .int (nI (a))), (2, .int (iZ (sg))), (3, .int (nI (i))), (4, .long (lN (m i))), (6, .long (lN (((kn * (m c)) + (d c)) % (m i)))), (8, .int (nI (c)))]) dX6_findDigits_52 (by decide) rfl ?_
        refine aX_iinc (v := (nI (c)) + (-1)) (lv' := [(0, .ref 77), (1, .int (nI (a))), (2, .int (iZ (sg))), (3, .int (nI (i))), (4, .long (lN (m i))), (6, .long (lN (((kn * (m c)) + (d c)) % (m i)))), (8, .int ((nI (c)) + (-1)))]) dX6_findDigits_54 rfl rfl (by decide) rfl ?_
        refine aX_goto (tgt := 26) dX6_findDigits_57 (by decide) ?_
        refine aX_lv (lv' := [(0, .ref 77), (1, .int (nI (a))), (2, .int (iZ (sg))), (3, .int (nI (i))), (4, .long (lN (m i))), (6, .long (lN (((kn * (m c)) + (d c)) % (m i)))), (8, .int (jDn c))]) [0, 1, 2, 3, 4, 5, 6] (by rw [← jDn_dec]; rfl) ?_
        exact ih c (by omega) c (by omega) rfl _ (by
          obtain ⟨q, hq⟩ : ∃ q, i - c = q + 1 := ⟨i - c - 1, by omega⟩
          rw [hk, hq, show i - (c + 1) = q by omega]
          show (hrn d m i q % m i * m c + d c) % m i = (d (i - (q + 1)) + m (i - (q + 1)) * hrn d m i q) % m i
          rw [show i - (q + 1) = c by omega, Nat.add_comm, Nat.add_mod, Nat.mul_mod, Nat.mod_mod, ← Nat.mul_mod, ← Nat.add_mod, Nat.mul_comm])
set_option maxHeartbeats 1000000 in
theorem l_findDigits {I : Nat → Nat → Int32} {L : Nat → Nat → Int64} {R : Nat → Nat → Option Nat} (hR : aRf R) {u : Nat} (hu : u ≤ 11) {m : Nat → Nat} (hm : mdRep I L u m) (hmk : mOk u m) {a n : Nat} (ha : a < n ∨ a = 20 ∨ a = 21) (hn20 : n ≤ 20) {Yf : Nat → Int} (hrm : ∀ j, j < u → rmOk L (101 + j) (m j) n Yf) {sg : Int} (hsg : sg = 1 ∨ sg = -1) : ∀ (k9 i : Nat), i ≤ u → u - i = k9 → ∀ (L1 : Nat → Nat → Int64) (d : Nat → Nat), dgOk L1 i m d (sg * Yf a) → (∀ q j, q ≠ 114 → L1 q j = L q j) → aX mX6_findDigits aE0 (sh0, I, L1, R) 2 [(0, .ref 77), (1, .int (nI (a))), (2, .int (iZ (sg))), (3, .int (nI (i)))] [] 0 0 (fun ans h' => ans = none ∧ ∃ L' d, h' = (sh0, I, L', R) ∧ dgOk L' u m d (sg * Yf a) ∧ (∀ q j, q ≠ 114 → L' q j = L q j)) := by
  intro k9
  induction k9 using Nat.strongRecOn with
  | _ k9 ih =>
    intro i hi hk9 L1  d  hd hk
    refine aX_iload_n dX6_findDigits_2 rfl ?_
    refine aX_aload_n dX6_findDigits_3 rfl ?_
    refine aX_get (v := .int (nI (u))) dX6_findDigits_4 lfX6_40 s77 (congrArg Value.int (hm.1)) ?_
    refine nGe (tgt := 105) dX6_findDigits_7 (by decide) (by first | omega | exact Nat.lt_of_le_of_lt (Nat.mod_le _ _) (by omega)) (by first | omega | exact Nat.lt_of_le_of_lt (Nat.mod_le _ _) (by omega)) (fun c1 => ?_) (fun c1 => ?_)
    · exact rV dX6_findDigits_105 rfl (⟨rfl, L1, d, rfl, by rw [show i = u by omega] at hd; exact hd, hk⟩)
    · refine aX_aload_n dX6_findDigits_10 rfl ?_
      refine aX_get dX6_findDigits_11 lfX6_25 s77 (f77_4 hR) ?_
      refine aX_iload_n dX6_findDigits_14 rfl ?_
      refine nLald (v := lN (m i)) dX6_findDigits_15 s112 (by first | omega | exact Nat.lt_of_le_of_lt (Nat.mod_le _ _) (by omega)) (by decide) ((hk _ _ (by omega)).trans (hm.2.1 i (by omega))) ?_
      refine aX_lstore (lv' := [(0, .ref 77), (1, .int (nI (a))), (2, .int (iZ (sg))), (3, .int (nI (i))), (4, .long (lN (m i)))]) dX6_findDigits_16 (by decide) rfl ?_
      refine aX_lconst (v := lN 0) dX6_findDigits_18 rfl ?_
      refine aX_lstore (lv' := [(0, .ref 77), (1, .int (nI (a))), (2, .int (iZ (sg))), (3, .int (nI (i))), (4, .long (lN (m i))), (6, .long (lN (0)))]) dX6_findDigits_19 (by decide) rfl ?_
      refine aX_iload_n dX6_findDigits_21 rfl ?_
      refine aX_iconst (v := nI 1) dX6_findDigits_22 (by decide) ?_
      refine aX_isub dX6_findDigits_23 ?_
      rw [jDn_sub]
      refine aX_istore (lv' := [(0, .ref 77), (1, .int (nI (a))), (2, .int (iZ (sg))), (3, .int (nI (i))), (4, .long (lN (m i))), (6, .long (lN (0))), (8, .int (jDn i))]) dX6_findDigits_24 (by decide) rfl ?_
      refine l_fdIn hR (L := L1) hu hmk (i := i) (by omega) (d := d) (fun j hj => (hk _ _ (by omega)).trans (hm.2.1 j hj)) (fun j hj => ⟨(hd j hj).1, (hd j hj).2.1⟩) (fun kn hkn => ?_) _ i (Nat.le_refl _) rfl 0 (by rw [Nat.sub_self]; show 0 = 0 % _; rw [Nat.zero_mod])
      have hpi := (hmk.1 i (by omega)).2.1
      have hp0 := (hmk.1 i (by omega)).1.1
      have hkl : kn < m i := by rw [hkn]; exact Nat.mod_lt _ (by omega)
      obtain ⟨v, hv1, hv2, hv3⟩ := hrm i (by omega) a ha
      have hsv : -(1073741824) ≤ sg * (v : Int) ∧ sg * (v : Int) ≤ 1073741824 := by rcases hsg with e | e <;> rw [e] <;> omega
      obtain ⟨iv, hiv⟩ : ∃ z, z = (prn i m % m i) ^ (m i - 2) % m i := ⟨_, rfl⟩
      have hivl : iv < m i := by rw [hiv]; exact Nat.mod_lt _ (by omega)
      have hri := hm.2.2 i (by omega)
      rw [← hiv] at hri
      have hr0 := Int.emod_nonneg (sg * (v : Int) - (kn : Int)) (show ((m i : Nat) : Int) ≠ 0 by omega)
      have hrl := Int.emod_lt_of_pos (sg * (v : Int) - (kn : Int)) (show (0 : Int) < ((m i : Nat) : Int) by omega)
      have hmm : ((sg * (v : Int) - (kn : Int)) % ((m i : Nat) : Int)).toNat * iv < 2 ^ 63 := mul_lt62 (p := m i) (by omega) hivl (by omega)
      refine aX_iload_n dX6_findDigits_60 rfl ?_
      refine yI2l dX6_findDigits_61 (by first | omega | exact Nat.lt_of_le_of_lt (Nat.mod_le _ _) (by omega)) (by first | omega | exact Nat.lt_of_le_of_lt (Nat.mod_le _ _) (by omega)) ?_
      refine aX_aload_n dX6_findDigits_62 rfl ?_
      refine aX_get dX6_findDigits_63 lfX6_22 s77 (f77_3 hR) ?_
      refine aX_iload_n dX6_findDigits_66 rfl ?_
      refine nAald (r := 101 + i) dX6_findDigits_67 s100 (by decide) (by first | omega | exact Nat.lt_of_le_of_lt (Nat.mod_le _ _) (by omega)) (by decide) (r100 hR i (by omega)) ?_
      refine aX_iload_n dX6_findDigits_68 rfl ?_
      refine nLald (v := lN (v)) dX6_findDigits_69 (s100r i (by omega)) (by first | omega | exact Nat.lt_of_le_of_lt (Nat.mod_le _ _) (by omega)) (by decide) ((hk _ _ (by omega)).trans hv1) ?_
      refine yMul (a := sg) (b := ((v : Nat) : Int)) dX6_findDigits_70 (rfl) (kZ _) ?_
      refine aX_lload dX6_findDigits_71 rfl ?_
      refine ySub (a := sg * (((v : Nat) : Int))) (b := ((kn : Nat) : Int)) dX6_findDigits_73 (rfl) (kZ _) ?_
      refine aX_lload dX6_findDigits_74 rfl ?_
      refine cSp (As := [.long (lZ ((sg * (((v : Nat) : Int))) - (((kn : Nat) : Int)))), .long (lN (m i))]) (st := []) (v := .long (lN ((((sg * (((v : Nat) : Int))) - (((kn : Nat) : Int))) % ((m i : Nat) : Int)).toNat))) dX6_findDigits_76 kX6_findDigits_76 aEok0 rfl rfl (Nat.le_of_ble_eq_true rfl) (c_fmodL (by omega) (by omega) (by omega) (by omega)) ?_
      refine aX_lstore (lv' := [(0, .ref 77), (1, .int (nI (a))), (2, .int (iZ (sg))), (3, .int (nI (i))), (4, .long (lN (m i))), (6, .long (lN (kn))), (8, .long (lN ((((sg * (((v : Nat) : Int))) - (((kn : Nat) : Int))) % ((m i : Nat) : Int)).toNat)))]) dX6_findDigits_79 (by decide) rfl ?_
      refine aX_aload_n dX6_findDigits_81 rfl ?_
      refine aX_get dX6_findDigits_82 lfX6_32 s77 (f77_6 hR) ?_
      refine aX_iload_n dX6_findDigits_85 rfl ?_
      refine aX_lload dX6_findDigits_86 rfl ?_
      refine aX_aload_n dX6_findDigits_88 rfl ?_
      refine aX_get dX6_findDigits_89 lfX6_29 s77 (f77_5 hR) ?_
      refine aX_iload_n dX6_findDigits_92 rfl ?_
      refine nLald (v := lN (iv)) dX6_findDigits_93 s113 (by first | omega | exact Nat.lt_of_le_of_lt (Nat.mod_le _ _) (by omega)) (by decide) ((hk _ _ (by omega)).trans hri) ?_
      refine kMul dX6_findDigits_94 ?_
      refine aX_lload dX6_findDigits_95 rfl ?_
      refine kRem dX6_findDigits_97 (by exact hmm) (by first | omega | exact Nat.lt_of_le_of_lt (Nat.mod_le _ _) (by omega)) (by first | omega | exact Nat.lt_of_le_of_lt (Nat.mod_le _ _) (by omega)) ?_
      refine nLast dX6_findDigits_98 s114 (by first | omega | exact Nat.lt_of_le_of_lt (Nat.mod_le _ _) (by omega)) (by decide) ?_
      obtain ⟨L2, hL2⟩ : ∃ z, z = (aU L1 114 i (lN ((((((sg * (((v : Nat) : Int))) - (((kn : Nat) : Int))) % ((m i : Nat) : Int)).toNat) * iv) % (m i)))) := ⟨_, rfl⟩
      rw [← hL2]
      have hvl : ((sg * (v : Int) - (kn : Int)) % ((m i : Nat) : Int)).toNat * iv % m i < m i := Nat.mod_lt _ (by omega)
      have hcg := dg_cg (p := m i) (mr := mrx d m i) (M := prn i m) (inv := iv) (v := v) (kn := kn) (sg := sg) (y := Yf a) (by rw [hkn]; exact natmod_cg _ _) (by rw [hiv]; exact inv_cg hmk (by omega)) hv3 (by omega)
      refine nInc (lv' := [(0, .ref 77), (1, .int (nI (a))), (2, .int (iZ (sg))), (3, .int (nI (i + 1))), (4, .long (lN (m i))), (6, .long (lN (kn))), (8, .long (lN ((((sg * (((v : Nat) : Int))) - (((kn : Nat) : Int))) % ((m i : Nat) : Int)).toNat)))]) dX6_findDigits_99 rfl rfl (by decide) rfl ?_
      refine aX_goto (tgt := 2) dX6_findDigits_102 (by decide) ?_
      refine aX_lv (lv' := [(0, .ref 77), (1, .int (nI (a))), (2, .int (iZ (sg))), (3, .int (nI (i + 1)))]) [0, 1, 2, 3] rfl ?_
      exact ih (u - (i + 1)) (by omega) (i + 1) (by omega) rfl L2 (va_up d i (((sg * (v : Int) - (kn : Int)) % ((m i : Nat) : Int)).toNat * iv % m i)) (fun j hj => by
        have hme : mrx (va_up d i (((sg * (v : Int) - (kn : Int)) % ((m i : Nat) : Int)).toNat * iv % m i)) m j = mrx d m j := mrx_ext (fun b hb => ⟨by simp [va_up, show ¬ b = i by omega], rfl⟩)
        rw [hme]
        by_cases e : j = i
        · subst e
          rw [show va_up d j (((sg * (v : Int) - (kn : Int)) % ((m j : Nat) : Int)).toNat * iv % m j) j = ((sg * (v : Int) - (kn : Int)) % ((m j : Nat) : Int)).toNat * iv % m j by simp [va_up]]
          exact ⟨by rw [hL2, aU_s], hvl, hcg⟩
        · rw [show va_up d i (((sg * (v : Int) - (kn : Int)) % ((m i : Nat) : Int)).toNat * iv % m i) j = d j by simp [va_up, e]]
          rw [hL2, aU_n (by omega)]
          exact hd j (by omega)) (fun q j g => by rw [hL2, aU_n (by omega)]; exact hk q j g)
set_option maxHeartbeats 1000000 in
theorem c_findDigits {I : Nat → Nat → Int32} {L : Nat → Nat → Int64} {R : Nat → Nat → Option Nat} (hR : aRf R) {u : Nat} (hu : u ≤ 11) {m : Nat → Nat} (hm : mdRep I L u m) (hmk : mOk u m) {a n : Nat} (ha : a < n ∨ a = 20 ∨ a = 21) (hn20 : n ≤ 20) {Yf : Nat → Int} (hrm : ∀ j, j < u → rmOk L (101 + j) (m j) n Yf) {sg : Int} (hsg : sg = 1 ∨ sg = -1) : aM mX6_findDigits [.ref 77, .int (nI a), .int (iZ sg)] (sh0, I, L, R) (fun ans h' => ans = none ∧ ∃ L' d, h' = (sh0, I, L', R) ∧ dgOk L' u m d (sg * Yf a) ∧ (∀ q j, q ≠ 114 → L' q j = L q j)) := by
  refine aM_of plX6_findDigits (Nat.le_of_ble_eq_true rfl) ?_
  refine aX_iconst (v := nI 0) dX6_findDigits_0 (by decide) ?_
  refine aX_istore_n (lv' := [(0, .ref 77), (1, .int (nI (a))), (2, .int (iZ (sg))), (3, .int (nI (0)))]) dX6_findDigits_1 (by decide) rfl ?_
  exact l_findDigits hR hu hm hmk ha hn20 hrm hsg _ 0 (by omega) rfl L (fun _ => 0) (fun j hj => by omega) (fun _ _ _ => rfl)
theorem r78 {R : Nat → Nat → Option Nat} (hR : aRf R) : ∀ x, x < 22 → R 78 x = some (115 + 2 * x)
  | 0, _ => hR 78 0 115 rfl
  | 1, _ => hR 78 1 117 rfl
  | 2, _ => hR 78 2 119 rfl
  | 3, _ => hR 78 3 121 rfl
  | 4, _ => hR 78 4 123 rfl
  | 5, _ => hR 78 5 125 rfl
  | 6, _ => hR 78 6 127 rfl
  | 7, _ => hR 78 7 129 rfl
  | 8, _ => hR 78 8 131 rfl
  | 9, _ => hR 78 9 133 rfl
  | 10, _ => hR 78 10 135 rfl
  | 11, _ => hR 78 11 137 rfl
  | 12, _ => hR 78 12 139 rfl
  | 13, _ => hR 78 13 141 rfl
  | 14, _ => hR 78 14 143 rfl
  | 15, _ => hR 78 15 145 rfl
  | 16, _ => hR 78 16 147 rfl
  | 17, _ => hR 78 17 149 rfl
  | 18, _ => hR 78 18 151 rfl
  | 19, _ => hR 78 19 153 rfl
  | 20, _ => hR 78 20 155 rfl
  | 21, _ => hR 78 21 157 rfl
  | n + 22, h => absurd h (by omega)
set_option maxHeartbeats 1000000 in
theorem l_put {I : Nat → Nat → Int32} {L : Nat → Nat → Int64} {R : Nat → Nat → Option Nat} (hR : aRf R) {u : Nat} {m d : Nat → Nat} (hu : u ≤ 11) (hmk : mOk u m) {o a : Nat} (ho : wSh R o) {fl : Bool} (hm1 : ∀ j, j < u → L 112 j = lN (m j)) (hd : ∀ j, j < u → L 114 j = lN (d j) ∧ d j < m j) : ∀ (k9 c : Nat), c ≤ u → c = k9 → ∀ (I1 : Nat → Nat → Int32), wD I1 o ((hrn d m u (u - c) : Nat) : Int) → oK o I I1 → aX mX6_putTogether aE0 (sh0, I1, L, R) 79 [(0, .ref 77), (1, .int (nI (a))), (2, .int (bI (fl))), (3, .ref (o)), (4, .int (jDn c))] [] 0 0 (fun ans h' => ans = none ∧ ∃ I', h' = (sh0, I', L, R) ∧ wR I' o ((mrx d m u : Nat) : Int) fl ∧ oK o I I') := by
  intro k9
  induction k9 using Nat.strongRecOn with
  | _ k9 ih =>
    intro c hi hk9 I1  hx hk
    cases c with
    | zero =>
      refine aX_iload dX6_putTogether_79 rfl ?_
      refine aX_if_lt (tgt := 110) dX6_putTogether_81 (by decide) (fun c1 => ?_) (fun c1 => ?_)
      · refine aX_aload_n dX6_putTogether_110 rfl ?_
        refine aX_iload_n dX6_putTogether_111 rfl ?_
        refine pZ (b := fl) dX6_putTogether_112 lfX6_114 (fun _ _ _ hq => by cases hq; exact Or.inl rfl) (ho.1 _ _) rfl ?_
        exact rV dX6_putTogether_115 rfl (⟨rfl, _, rfl, ⟨fun i hi => by rw [aU_n (by omega)]; have z := hx i hi; rw [Nat.sub_zero, hrn_all] at z; exact z, by rw [aU_s]⟩, fun q j g1 g2 => by rw [aU_n (by omega)]; exact hk q j g1 g2⟩)
      · exact absurd (by decide) c1
    | succ c =>
      have hpc := (hmk.1 c (by omega)).2.1
      have hdc := (hd c (by omega)).2
      refine aX_iload dX6_putTogether_79 rfl ?_
      refine aX_if_lt (tgt := 110) dX6_putTogether_81 (by decide) (fun c2 => ?_) (fun c2 => ?_)
      · exact absurd c2 (nI_pos (by omega))
      · refine aX_aload_n dX6_putTogether_84 rfl ?_
        refine aX_aload_n dX6_putTogether_85 rfl ?_
        refine aX_get dX6_putTogether_86 lfX6_25 s77 (f77_4 hR) ?_
        refine aX_iload dX6_putTogether_89 rfl ?_
        refine nLald (v := lN (m c)) dX6_putTogether_91 s112 (by first | omega | exact Nat.lt_of_le_of_lt (Nat.mod_le _ _) (by omega)) (by decide) (hm1 c (by omega)) ?_
        refine kL2i dX6_putTogether_92 ?_
        refine aX_aload_n dX6_putTogether_93 rfl ?_
        refine aX_get dX6_putTogether_94 lfX6_32 s77 (f77_6 hR) ?_
        refine aX_iload dX6_putTogether_97 rfl ?_
        refine nLald (v := lN (d c)) dX6_putTogether_99 s114 (by first | omega | exact Nat.lt_of_le_of_lt (Nat.mod_le _ _) (by omega)) (by decide) ((hd c (by omega)).1) ?_
        refine kL2i dX6_putTogether_100 ?_
        refine cV (As := [.int (nI (m c)), .int (nI (d c))]) (st := []) dX6_putTogether_101 kX6_putTogether_111 (ho.1 _ _) aEok0 rfl rfl (Nat.le_of_ble_eq_true rfl) (c_timesPlus ho hx (by omega) (by omega)) (fun ans' h' hq9 => ?_)
        obtain ⟨rfl, I2, rfl, hx2, hk2⟩ := hq9
        refine ⟨rfl, ?_⟩
        refine aX_iinc (v := (nI (c)) + (-1)) (lv' := [(0, .ref 77), (1, .int (nI (a))), (2, .int (bI (fl))), (3, .ref (o)), (4, .int ((nI (c)) + (-1)))]) dX6_putTogether_104 rfl rfl (by decide) rfl ?_
        refine aX_goto (tgt := 79) dX6_putTogether_107 (by decide) ?_
        refine aX_lv (lv' := [(0, .ref 77), (1, .int (nI (a))), (2, .int (bI (fl))), (3, .ref (o)), (4, .int (jDn c))]) [0, 1, 2, 3, 4] (by rw [← jDn_dec]; rfl) ?_
        exact ih c (by omega) c (by omega) rfl I2 (by
          obtain ⟨q, hq⟩ : ∃ q, u - c = q + 1 := ⟨u - c - 1, by omega⟩
          rw [show u - (c + 1) = q by omega] at hx2
          rw [hq]
          have e : ((hrn d m u (q + 1) : Nat) : Int) = ((hrn d m u q : Nat) : Int) * ((m c : Nat) : Int) + ((d c : Nat) : Int) := by
            show ((d (u - (q + 1)) + m (u - (q + 1)) * hrn d m u q : Nat) : Int) = _
            rw [show u - (q + 1) = c by omega]; push_cast; rw [Int.mul_comm]; omega
          rw [e]; exact hx2) (fun q j g1 g2 => (hk2 q j g2).trans (hk q j g1 g2))
set_option maxHeartbeats 1000000 in
theorem c_putTogether {I : Nat → Nat → Int32} {L : Nat → Nat → Int64} {R : Nat → Nat → Option Nat} (hR : aRf R) {u : Nat} (hu : u < 11) {m : Nat → Nat} (hm : mdRep I L (u + 1) m) (hmk : mOk (u + 1) m) {a n : Nat} (ha : a < n ∨ a = 20 ∨ a = 21) (hn20 : n ≤ 20) {Yf : Nat → Int} (hrm : ∀ j, j < u + 1 → rmOk L (101 + j) (m j) n Yf) (hb : ((Yf a).natAbs : Int) ≤ ((m u / 2 * prn u m : Nat) : Int)) : aM mX6_putTogether [.ref 77, .int (nI a)] (sh0, I, L, R) (fun ans h' => ans = none ∧ ∃ I' L', h' = (sh0, I', L', R) ∧ wR I' (115 + 2 * a) ((Yf a).natAbs : Int) (decide (Yf a < 0)) ∧ oK (115 + 2 * a) I I' ∧ (∀ q j, q ≠ 114 → L' q j = L q j)) := by
  obtain ⟨o, hoe⟩ : ∃ o, o = 115 + 2 * a := ⟨_, rfl⟩
  have ho : wSh R o := by rw [hoe]; exact wVal hR a (by omega)
  refine aM_of plX6_putTogether (Nat.le_of_ble_eq_true rfl) ?_
  refine aX_aload_n dX6_putTogether_0 rfl ?_
  refine aX_iload_n dX6_putTogether_1 rfl ?_
  refine aX_iconst (v := nI 1) dX6_putTogether_2 (by decide) ?_
  refine cV (As := [.int (nI (a)), .int (nI (1))]) (st := []) dX6_putTogether_3 kX6_putTogether_105 s77 aEok0 rfl rfl (Nat.le_of_ble_eq_true rfl) (show aM _ [.ref 77, .int (nI a), .int (iZ 1)] _ _ from c_findDigits hR (by omega) hm hmk ha hn20 hrm (Or.inl rfl)) (fun ans' h' hq9 => ?_)
  obtain ⟨rfl, L2, d, rfl, hd, hk2⟩ := hq9
  refine ⟨rfl, ?_⟩
  rw [Int.one_mul] at hd
  have hdl : ∀ j, j < u + 1 → d j < m j := fun j hj => (hd j hj).2.1
  have hfl := pt_flag (hmk.1 u (by omega)).2.2 (mrx_lt (u + 1) hdl) (mrx_lt u (fun j hj => hdl j (by omega))) (dg_val hmk hdl (fun j hj => (hd j hj).2.2)) hb
  have hmu := (hmk.1 u (by omega)).2.1
  have hdu := hdl u (by omega)
  refine aX_aload_n dX6_putTogether_6 rfl ?_
  refine aX_get (v := .int (nI (u + 1))) dX6_putTogether_7 lfX6_40 s77 (congrArg Value.int (hm.1)) ?_
  refine nIf_le (tgt := 47) dX6_putTogether_10 (by decide) (by first | omega | exact Nat.lt_of_le_of_lt (Nat.mod_le _ _) (by omega)) (fun c1 => ?_) (fun c1 => ?_)
  · exact absurd c1 (by omega)
  · refine aX_aload_n dX6_putTogether_13 rfl ?_
    refine aX_get dX6_putTogether_14 lfX6_32 s77 (f77_6 hR) ?_
    refine aX_aload_n dX6_putTogether_17 rfl ?_
    refine aX_get (v := .int (nI (u + 1))) dX6_putTogether_18 lfX6_40 s77 (congrArg Value.int (hm.1)) ?_
    refine aX_iconst (v := nI 1) dX6_putTogether_21 (by decide) ?_
    refine nSub dX6_putTogether_22 (by first | omega | exact Nat.lt_of_le_of_lt (Nat.mod_le _ _) (by omega)) ?_
    refine nLald (v := lN (d u)) dX6_putTogether_23 s114 (by first | omega | exact Nat.lt_of_le_of_lt (Nat.mod_le _ _) (by omega)) (by decide) ((hd u (by omega)).1) ?_
    refine aX_aload_n dX6_putTogether_24 rfl ?_
    refine aX_get dX6_putTogether_25 lfX6_25 s77 (f77_4 hR) ?_
    refine aX_aload_n dX6_putTogether_28 rfl ?_
    refine aX_get (v := .int (nI (u + 1))) dX6_putTogether_29 lfX6_40 s77 (congrArg Value.int (hm.1)) ?_
    refine aX_iconst (v := nI 1) dX6_putTogether_32 (by decide) ?_
    refine nSub dX6_putTogether_33 (by first | omega | exact Nat.lt_of_le_of_lt (Nat.mod_le _ _) (by omega)) ?_
    refine nLald (v := lN (m u)) dX6_putTogether_34 s112 (by first | omega | exact Nat.lt_of_le_of_lt (Nat.mod_le _ _) (by omega)) (by decide) ((hk2 _ _ (by omega)).trans (hm.2.1 u (by omega))) ?_
    refine aX_ldc2 (v := lN 2) dX6_putTogether_35 lkX6_103 ?_
    refine kDiv dX6_putTogether_38 (by first | omega | exact Nat.lt_of_le_of_lt (Nat.mod_le _ _) (by omega)) (by first | omega | exact Nat.lt_of_le_of_lt (Nat.mod_le _ _) (by omega)) (by first | omega | exact Nat.lt_of_le_of_lt (Nat.mod_le _ _) (by omega)) ?_
    refine aX_lcmp dX6_putTogether_39 ?_
    refine kIf_le (tgt := 47) dX6_putTogether_40 (by decide) (by first | omega | exact Nat.lt_of_le_of_lt (Nat.mod_le _ _) (by omega)) (by first | omega | exact Nat.lt_of_le_of_lt (Nat.mod_le _ _) (by omega)) (fun c2 => ?_) (fun c2 => ?_)
    · refine aX_iconst (v := nI 0) dX6_putTogether_47 (by decide) ?_
      refine aX_istore_n (lv' := [(0, .ref 77), (1, .int (nI (a))), (2, .int (nI (0)))]) dX6_putTogether_48 (by decide) rfl ?_
      refine aX_iload_n dX6_putTogether_49 rfl ?_
      refine nIf_eq (tgt := 59) dX6_putTogether_50 (by decide) (by first | omega | exact Nat.lt_of_le_of_lt (Nat.mod_le _ _) (by omega)) (fun c3 => ?_) (fun c3 => ?_)
      · refine aX_aload_n dX6_putTogether_59 rfl ?_
        refine aX_get dX6_putTogether_60 lfX6_11 s77 (f77_1 hR) ?_
        refine aX_iload_n dX6_putTogether_63 rfl ?_
        refine nAald (r := o) dX6_putTogether_64 s78 (by decide) (by first | omega | exact Nat.lt_of_le_of_lt (Nat.mod_le _ _) (by omega)) (by decide) (by rw [hoe]; exact r78 hR a (by omega)) ?_
        refine aX_astore_n (lv' := [(0, .ref 77), (1, .int (nI (a))), (2, .int (nI (0))), (3, .ref (o))]) dX6_putTogether_65 (by decide) rfl ?_
        refine aX_aload_n dX6_putTogether_66 rfl ?_
        refine aX_iconst (v := nI 0) dX6_putTogether_67 (by decide) ?_
        refine cV (As := [.int (nI (0))]) (st := []) dX6_putTogether_68 kX6_putTogether_108 (ho.1 _ _) aEok0 rfl rfl (Nat.le_of_ble_eq_true rfl) (c_become ho (by decide)) (fun ans' h' hq9 => ?_)
        obtain ⟨rfl, I4, rfl, hx4, hk4⟩ := hq9
        refine ⟨rfl, ?_⟩
        refine aX_aload_n dX6_putTogether_71 rfl ?_
        refine aX_get (v := .int (nI (u + 1))) dX6_putTogether_72 lfX6_40 s77 (congrArg Value.int ((hk4 77 7 (by omega) (by omega)).trans hm.1)) ?_
        refine aX_iconst (v := nI 1) dX6_putTogether_75 (by decide) ?_
        refine aX_isub dX6_putTogether_76 ?_
        rw [jDn_sub]
        refine aX_istore (lv' := [(0, .ref 77), (1, .int (nI (a))), (2, .int (nI (0))), (3, .ref (o)), (4, .int (jDn (u + 1)))]) dX6_putTogether_77 (by decide) rfl ?_
        refine aX_lv (lv' := [(0, .ref 77), (1, .int (nI (a))), (2, .int (bI (false))), (3, .ref (o)), (4, .int (jDn (u + 1)))]) [0, 1, 2, 3, 4] rfl ?_
        have hk5 : ∀ q j, q ≠ 114 → L2 q j = L q j := hk2
        refine aX_mono (l_put hR (L := L2) (fl := false) (u := u + 1) (m := m) (d := d) (by omega) hmk ho (fun j hj => (hk5 _ _ (by omega)).trans (hm.2.1 j hj)) (fun j hj => ⟨(hd j hj).1, (hd j hj).2.1⟩) _ (u + 1) (Nat.le_refl _) rfl I4 (by rw [Nat.sub_self]; exact hx4.1) hk4) (fun ans h' hq9 => ?_)
        obtain ⟨rfl, I6, rfl, g1, g2⟩ := hq9
        have hN : 0 ≤ Yf a := hfl.1.mp (by omega)
        have hval := hfl.2 hN
        exact ⟨rfl, I6, L2, rfl, by rw [hoe] at g1; rw [hval] at g1; rw [show decide (Yf a < 0) = false by simp; omega, show (((Yf a).natAbs : Nat) : Int) = Yf a by omega]; exact g1, by rw [hoe] at g2; exact g2, hk5⟩
      · exact absurd c3 (by decide)
    · refine aX_iconst (v := nI 1) dX6_putTogether_43 (by decide) ?_
      refine aX_goto (tgt := 48) dX6_putTogether_44 (by decide) ?_
      refine aX_istore_n (lv' := [(0, .ref 77), (1, .int (nI (a))), (2, .int (nI (1)))]) dX6_putTogether_48 (by decide) rfl ?_
      refine aX_iload_n dX6_putTogether_49 rfl ?_
      refine nIf_eq (tgt := 59) dX6_putTogether_50 (by decide) (by first | omega | exact Nat.lt_of_le_of_lt (Nat.mod_le _ _) (by omega)) (fun c4 => ?_) (fun c4 => ?_)
      · exact absurd c4 (by decide)
      · refine aX_aload_n dX6_putTogether_53 rfl ?_
        refine aX_iload_n dX6_putTogether_54 rfl ?_
        refine aX_iconst (v := (-1)) dX6_putTogether_55 (by decide) ?_
        refine cV (As := [.int (nI (a)), .int ((-1))]) (st := []) dX6_putTogether_56 kX6_putTogether_105 s77 aEok0 rfl rfl (Nat.le_of_ble_eq_true rfl) (show aM _ [.ref 77, .int (nI a), .int (iZ (-1))] _ _ from c_findDigits hR (u := u + 1) (by omega) ⟨hm.1, fun j hj => (hk2 _ _ (by omega)).trans (hm.2.1 j hj), fun j hj => (hk2 _ _ (by omega)).trans (hm.2.2 j hj)⟩ hmk ha hn20 (fun j hj i hi => by
          obtain ⟨v, q1, q2⟩ := hrm j hj i hi
          exact ⟨v, (hk2 _ _ (by omega)).trans q1, q2⟩) (Or.inr rfl)) (fun ans' h' hq9 => ?_)
        obtain ⟨rfl, L3, d3, rfl, hd3, hk3⟩ := hq9
        refine ⟨rfl, ?_⟩
        have hdl3 : ∀ j, j < u + 1 → d3 j < m j := fun j hj => (hd3 j hj).2.1
        have hN : Yf a < 0 := by
          have := hfl.1
          omega
        have hfl3 := pt_flag (N := -1 * Yf a) (hmk.1 u (by omega)).2.2 (mrx_lt (u + 1) hdl3) (mrx_lt u (fun j hj => hdl3 j (by omega))) (dg_val hmk hdl3 (fun j hj => (hd3 j hj).2.2)) (by omega)
        have hval := hfl3.2 (by omega)
        refine aX_aload_n dX6_putTogether_59 rfl ?_
        refine aX_get dX6_putTogether_60 lfX6_11 s77 (f77_1 hR) ?_
        refine aX_iload_n dX6_putTogether_63 rfl ?_
        refine nAald (r := o) dX6_putTogether_64 s78 (by decide) (by first | omega | exact Nat.lt_of_le_of_lt (Nat.mod_le _ _) (by omega)) (by decide) (by rw [hoe]; exact r78 hR a (by omega)) ?_
        refine aX_astore_n (lv' := [(0, .ref 77), (1, .int (nI (a))), (2, .int (nI (1))), (3, .ref (o))]) dX6_putTogether_65 (by decide) rfl ?_
        refine aX_aload_n dX6_putTogether_66 rfl ?_
        refine aX_iconst (v := nI 0) dX6_putTogether_67 (by decide) ?_
        refine cV (As := [.int (nI (0))]) (st := []) dX6_putTogether_68 kX6_putTogether_108 (ho.1 _ _) aEok0 rfl rfl (Nat.le_of_ble_eq_true rfl) (c_become ho (by decide)) (fun ans' h' hq9 => ?_)
        obtain ⟨rfl, I4, rfl, hx4, hk4⟩ := hq9
        refine ⟨rfl, ?_⟩
        refine aX_aload_n dX6_putTogether_71 rfl ?_
        refine aX_get (v := .int (nI (u + 1))) dX6_putTogether_72 lfX6_40 s77 (congrArg Value.int ((hk4 77 7 (by omega) (by omega)).trans hm.1)) ?_
        refine aX_iconst (v := nI 1) dX6_putTogether_75 (by decide) ?_
        refine aX_isub dX6_putTogether_76 ?_
        rw [jDn_sub]
        refine aX_istore (lv' := [(0, .ref 77), (1, .int (nI (a))), (2, .int (nI (1))), (3, .ref (o)), (4, .int (jDn (u + 1)))]) dX6_putTogether_77 (by decide) rfl ?_
        refine aX_lv (lv' := [(0, .ref 77), (1, .int (nI (a))), (2, .int (bI (true))), (3, .ref (o)), (4, .int (jDn (u + 1)))]) [0, 1, 2, 3, 4] rfl ?_
        have hk5 : ∀ q j, q ≠ 114 → L3 q j = L q j := fun q j g => (hk3 q j g).trans (hk2 q j g)
        refine aX_mono (l_put hR (L := L3) (fl := true) (u := u + 1) (m := m) (d := d3) (by omega) hmk ho (fun j hj => (hk5 _ _ (by omega)).trans (hm.2.1 j hj)) (fun j hj => ⟨(hd3 j hj).1, (hd3 j hj).2.1⟩) _ (u + 1) (Nat.le_refl _) rfl I4 (by rw [Nat.sub_self]; exact hx4.1) hk4) (fun ans h' hq9 => ?_)
        obtain ⟨rfl, I6, rfl, g1, g2⟩ := hq9
        exact ⟨rfl, I6, L3, rfl, by rw [hoe] at g1; rw [hval] at g1; rw [show decide (Yf a < 0) = true by simp [hN], show (((Yf a).natAbs : Nat) : Int) = -1 * Yf a by omega]; exact g1, by rw [hoe] at g2; exact g2, hk5⟩
