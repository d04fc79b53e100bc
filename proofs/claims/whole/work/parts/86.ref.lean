/-! THE REFERENCE: numbers out of remainders -/
theorem inv_cg2 {i : Nat} {m : Nat → Nat} (hP : isP (m i)) (h : ∀ j, j < i → isP (m j) ∧ m j ≠ m i) : cg (m i) ((prn i m : Int) * (((prn i m % m i) ^ (m i - 2) % m i : Nat) : Int)) 1 := by
  have hc := cop_prn hP i (m := m) h
  have hf := fermat_inv hP (ndvd_mod hc)
  have z := natmod_cg (prn i m % m i * ((prn i m % m i) ^ (m i - 2) % m i)) (m i)
  rw [hf, Int.natCast_mul] at z
  exact cg_symm (cg_trans z (cg_mul (natmod_cg _ _) (cg_refl _ _)))
theorem jn_sum (a b c p : Nat) : (a % p + b % p * (c % p)) % p = (a + b * c) % p := by
  rw [Nat.add_mod, Nat.mod_mod, ← Nat.mul_mod, ← Nat.add_mod]
theorem jn_turn (a b p : Nat) : a % p * (b % p) % p = a * b % p := (Nat.mul_mod a b p).symm
theorem jn_val {M X : Nat} {y : Int} (hX : X < M) (hc : cg (M : Int) (X : Int) y) (hy : 2 * (y.natAbs : Int) < M) : (2 * X ≤ M → decide (y < 0) = false ∧ X = y.natAbs) ∧ (M < 2 * X → decide (y < 0) = true ∧ M - X = y.natAbs) := by
  by_cases h : y < 0
  · have hc' : cg (M : Int) (X : Int) (y + M) := cg_trans hc ⟨-1, by omega⟩
    have hv : (X : Int) = y + M := cg_small hc' (by omega) (by omega)
    exact ⟨fun g => by omega, fun _ => ⟨decide_eq_true h, by omega⟩⟩
  · have hv : (X : Int) = y := cg_small hc (by omega) (by omega)
    exact ⟨fun _ => ⟨decide_eq_false h, by omega⟩, fun g => by omega⟩
def pmOk (L : Nat → Nat → Int64) (m : Nat → Nat) : Prop := (∀ k, k < 14 → L 188 k = lN (m k) ∧ isP (m k) ∧ 1073741824 < m k ∧ m k < 2147483648) ∧ ∀ i j, i < 14 → j < 14 → m i = m j → i = j
theorem pm_lo {L : Nat → Nat → Int64} {m : Nat → Nat} (h : pmOk L m) : 2 ^ 420 ≤ prn 14 m := by
  have := prn_ge (m := m) (n := 14) (b := 2 ^ 30) (fun i hi => by have := h.1 i hi; omega)
  have e : (2 ^ 30) ^ 14 = 2 ^ 420 := by decide +kernel
  omega
theorem pm_hi {L : Nat → Nat → Int64} {m : Nat → Nat} (h : pmOk L m) {k : Nat} (hk : k ≤ 14) : prn k m ≤ 2 ^ 434 := by
  have h1 := prn_le (n := k) (f := m) (g := fun _ => 2 ^ 31) (fun i hi => by have := h.1 i (by omega); omega)
  rw [prn_const] at h1
  have h2 : (2 ^ 31) ^ k ≤ (2 ^ 31) ^ 14 := Nat.pow_le_pow_right (by decide) hk
  have e : (2 ^ 31) ^ 14 = 2 ^ 434 := by decide +kernel
  omega
theorem hPw_434 : 2 * 2 ^ 434 < hPw 17 := by decide +kernel
theorem hPw_17 : hPw 17 < hPw 18 := by decide +kernel
def dgO (L : Nat → Nat → Int64) (u : Nat) (m d : Nat → Nat) (y : Int) : Prop := ∀ j, j < u → L 192 j = lN (d j) ∧ d j < m j ∧ cg (m j) ((mrx d m j : Int) + d j * prn j m) y
theorem dgO_s {L : Nat → Nat → Int64} {u : Nat} {m d : Nat → Nat} {y : Int} {n : Nat} (h : dgO L u m d y) (hn : n < m u) (hc : cg (m u) ((mrx d m u : Int) + n * prn u m) y) : dgO (aU L 192 u (lN n)) (u + 1) m (va_up d u n) y := fun j hj => by
  have hx : ∀ i, i ≤ u → mrx (va_up d u n) m i = mrx d m i := fun i hi => mrx_ext (fun a ha => ⟨by simp [va_up, show ¬ a = u by omega], rfl⟩)
  rw [hx j (by omega)]
  by_cases e : j = u
  · subst e
    rw [aU_s, show va_up d j n j = n by simp [va_up]]
    exact ⟨rfl, hn, hc⟩
  · rw [aU_n (by omega), show va_up d u n j = d j by simp [va_up, e]]
    exact h j (by omega)
theorem hDg_1 : ∀ i, hDg 1 i = if i = 0 then 1 else 0
  | 0 => rfl
  | i + 1 => by rw [if_neg (by omega)]; exact hDg_hi (Nat.lt_of_lt_of_le (by decide : 1 < hPw 1) (hPw_le (by omega)))
theorem hD_one {x : Nat} {L : Nat → Nat → Int64} (h : hD L x 0) : hD (aU L 191 (18 * x) (lN 1)) x 1 := fun i hi => by
  rw [hDg_1]
  by_cases e : i = 0
  · subst e; rw [if_pos rfl, Nat.add_zero, aU_s]
  · rw [if_neg e, aU_n (by omega), h i hi, hDg_00]
theorem bI_inj {a b : Bool} (h : bI a = bI b) : a = b := by cases a <;> cases b <;> first | rfl | exact absurd h (by decide)
set_option maxHeartbeats 1000000 in
theorem ml_jnIn {I : Nat → Nat → Int32} {L : Nat → Nat → Int64} {R : Nat → Nat → Option Nat} (hR : aRf R) {x a k v : Nat} (hx : x < 9) (ha : a < 22) (hk : k < 14) {m d : Nat → Nat} {y : Int} {L1 : Nat → Nat → Int64} (hm : pmOk L1 m) (hd : dgO L1 k m d y) {Q : Option Value → aH → Prop} (kk : aX mX11_join aE0 (sh0, I, L1, R) 89 [(0, .ref 159), (1, .int (nI x)), (2, .int (nI a)), (3, .int (nI k)), (4, .long (lN (m k))), (6, .long (lN v)), (8, .long (lN (prn k m % m k))), (10, .long (lN (mrx d m k % m k))), (12, .int (nI k))] [] 0 0 Q) : ∀ (k9 j : Nat), j ≤ k → k - j = k9 → aX mX11_join aE0 (sh0, I, L1, R) 38 [(0, .ref 159), (1, .int (nI (x))), (2, .int (nI (a))), (3, .int (nI (k))), (4, .long (lN (m k))), (6, .long (lN (v))), (8, .long (lN (prn j m % m k))), (10, .long (lN (mrx d m j % m k))), (12, .int (nI (j)))] [] 0 0 Q := by
  intro k9
  induction k9 using Nat.strongRecOn with
  | _ k9 ih =>
    intro j hjk hk9  
    have hmk := hm.1 k hk
    have ht1 : mrx d m j % m k < m k := Nat.mod_lt _ (by omega)
    have ht2 : prn j m % m k < m k := Nat.mod_lt _ (by omega)
    refine aX_iload dX11_join_38 rfl ?_
    refine aX_iload_n dX11_join_40 rfl ?_
    refine nGe (tgt := 89) dX11_join_41 (by decide) (by first | omega | exact Nat.lt_of_le_of_lt (Nat.mod_le _ _) (by omega)) (by first | omega | exact Nat.lt_of_le_of_lt (Nat.mod_le _ _) (by omega)) (fun c1 => ?_) (fun c1 => ?_)
    · obtain rfl : j = k := by omega
      exact kk
    · have hdj := hd j c1
      have hmj := hm.1 j (by omega)
      have b1 : d j % m k < m k := Nat.mod_lt _ (by omega)
      have b2 : m j % m k < m k := Nat.mod_lt _ (by omega)
      have p1 := mul_lt62 b1 ht2 (by omega)
      have p2 := mul_lt62 ht2 b2 (by omega)
      have p3 : d j % m k * (prn j m % m k) ≤ 2147483648 * 2147483648 := Nat.mul_le_mul (by omega) (by omega)
      refine aX_lload dX11_join_44 rfl ?_
      refine aX_aload_n dX11_join_46 rfl ?_
      refine aX_get dX11_join_47 lfX11_116 s159 (f159_41 hR) ?_
      refine aX_iload dX11_join_50 rfl ?_
      refine nLald (v := lN (d j)) dX11_join_52 s192 (by first | omega | exact Nat.lt_of_le_of_lt (Nat.mod_le _ _) (by omega)) (by decide) (hdj.1) ?_
      refine aX_lload dX11_join_53 rfl ?_
      refine kRem dX11_join_55 (by first | omega | exact Nat.lt_of_le_of_lt (Nat.mod_le _ _) (by omega)) (by first | omega | exact Nat.lt_of_le_of_lt (Nat.mod_le _ _) (by omega)) (by first | omega | exact Nat.lt_of_le_of_lt (Nat.mod_le _ _) (by omega)) ?_
      refine aX_lload dX11_join_56 rfl ?_
      refine kMul dX11_join_58 ?_
      refine kAdd dX11_join_59 ?_
      refine aX_lload dX11_join_60 rfl ?_
      refine kRem dX11_join_62 (by first | omega | exact Nat.lt_of_le_of_lt (Nat.mod_le _ _) (by omega)) (by first | omega | exact Nat.lt_of_le_of_lt (Nat.mod_le _ _) (by omega)) (by first | omega | exact Nat.lt_of_le_of_lt (Nat.mod_le _ _) (by omega)) ?_
      refine aX_lstore (lv' := [(0, .ref 159), (1, .int (nI (x))), (2, .int (nI (a))), (3, .int (nI (k))), (4, .long (lN (m k))), (6, .long (lN (v))), (8, .long (lN (prn j m % m k))), (10, .long (lN (((mrx d m j % m k) + (((d j) % (m k)) * (prn j m % m k))) % (m k)))), (12, .int (nI (j)))]) dX11_join_63 (by decide) rfl ?_
      refine aX_lload dX11_join_65 rfl ?_
      refine aX_aload_n dX11_join_67 rfl ?_
      refine aX_get dX11_join_68 lfX11_104 s159 (f159_37 hR) ?_
      refine aX_iload dX11_join_71 rfl ?_
      refine nLald (v := lN (m j)) dX11_join_73 s188 (by first | omega | exact Nat.lt_of_le_of_lt (Nat.mod_le _ _) (by omega)) (by decide) (hmj.1) ?_
      refine aX_lload dX11_join_74 rfl ?_
      refine kRem dX11_join_76 (by first | omega | exact Nat.lt_of_le_of_lt (Nat.mod_le _ _) (by omega)) (by first | omega | exact Nat.lt_of_le_of_lt (Nat.mod_le _ _) (by omega)) (by first | omega | exact Nat.lt_of_le_of_lt (Nat.mod_le _ _) (by omega)) ?_
      refine kMul dX11_join_77 ?_
      refine aX_lload dX11_join_78 rfl ?_
      refine kRem dX11_join_80 (by first | omega | exact Nat.lt_of_le_of_lt (Nat.mod_le _ _) (by omega)) (by first | omega | exact Nat.lt_of_le_of_lt (Nat.mod_le _ _) (by omega)) (by first | omega | exact Nat.lt_of_le_of_lt (Nat.mod_le _ _) (by omega)) ?_
      refine aX_lstore (lv' := [(0, .ref 159), (1, .int (nI (x))), (2, .int (nI (a))), (3, .int (nI (k))), (4, .long (lN (m k))), (6, .long (lN (v))), (8, .long (lN (((prn j m % m k) * ((m j) % (m k))) % (m k)))), (10, .long (lN (((mrx d m j % m k) + (((d j) % (m k)) * (prn j m % m k))) % (m k)))), (12, .int (nI (j)))]) dX11_join_81 (by decide) rfl ?_
      refine nInc (lv' := [(0, .ref 159), (1, .int (nI (x))), (2, .int (nI (a))), (3, .int (nI (k))), (4, .long (lN (m k))), (6, .long (lN (v))), (8, .long (lN (((prn j m % m k) * ((m j) % (m k))) % (m k)))), (10, .long (lN (((mrx d m j % m k) + (((d j) % (m k)) * (prn j m % m k))) % (m k)))), (12, .int (nI (j + 1)))]) dX11_join_83 rfl rfl (by decide) rfl ?_
      refine aX_goto (tgt := 38) dX11_join_86 (by decide) ?_
      rw [jn_sum, jn_turn]
      exact ih (k - (j + 1)) (by omega) (j + 1) (by omega) rfl
set_option maxHeartbeats 1000000 in
theorem ml_jnE {I : Nat → Nat → Int32} {L : Nat → Nat → Int64} {R : Nat → Nat → Option Nat} (hR : aRf R) {x a : Nat} (hx : x < 9) (ha : a < 22) {m d : Nat → Nat} {y : Int} (hy : (y.natAbs : Int) < 2 ^ 400) {L0 : Nat → Nat → Int64} (hm : pmOk L0 m) (hd : dgO L0 14 m d y) {k : Nat} (hk : 14 ≤ k ∧ k ≤ 14) {L1 : Nat → Nat → Int64} (h1 : hD L1 x (mrx d m k)) (h9 : hD L1 9 (prn k m)) (hk0 : (∀ q j, q ≠ 192 → ¬ (q = 191 ∧ ((18 * x ≤ j ∧ j < 18 * x + 18) ∨ (162 ≤ j ∧ j < 198))) → L1 q j = L q j)) : aX mX11_join aE0 (sh0, I, L1, R) 184 [(0, .ref 159), (1, .int (nI x)), (2, .int (nI a)), (3, .int (nI k))] [] 0 0 (fun ans h' => ans = some (.int (bI (decide (y < 0)))) ∧ ∃ L', h' = (sh0, I, L', R) ∧ hD L' x y.natAbs ∧ (∀ q j, q ≠ 192 → ¬ (q = 191 ∧ ((18 * x ≤ j ∧ j < 18 * x + 18) ∨ (162 ≤ j ∧ j < 198))) → L' q j = L q j)) := by
  obtain rfl : k = 14 := by omega
  have hlo := pm_lo hm
  have hhi := pm_hi hm (Nat.le_refl 14)
  have hlt : mrx d m 14 < prn 14 m := mrx_lt 14 (fun i hi => (hd i hi).2.1)
  have hw1 := hPw_434
  have hw2 := hPw_17
  have hcg : cg (prn 14 m : Int) (mrx d m 14 : Int) y := prn_cg (fun i hi => (hm.1 i hi).2.1) hm.2 (fun i hi => mrx_cg (r := fun _ => y) (fun j hj => (hd j hj).2.2) hi)
  have hp2 : (2 : Int) ^ 400 * 2 < ((2 ^ 420 : Nat) : Int) := by decide +kernel
  have hval := jn_val hlt hcg (by omega)
  refine aX_aload_n dX11_join_184 rfl ?_
  refine aX_bipush (v := nI 10) dX11_join_185 (by decide) ?_
  refine aX_iload_n dX11_join_187 rfl ?_
  refine cV (As := [.int (nI (10)), .int (nI (x))]) (st := []) dX11_join_188 kX11_join_272 s159 aEok0 rfl rfl (Nat.le_of_ble_eq_true rfl) (m_copy hR (by decide) (by omega) h1 (by omega)) (fun ans' h' hq9 => ?_)
  obtain ⟨rfl, L2, rfl, e1, f1⟩ := hq9
  refine ⟨rfl, ?_⟩
  refine aX_aload_n dX11_join_191 rfl ?_
  refine aX_bipush (v := nI 10) dX11_join_192 (by decide) ?_
  refine aX_ldc2 (v := lN 2) dX11_join_194 lkX11_222 ?_
  refine aX_lconst (v := lN 0) dX11_join_197 rfl ?_
  refine cV (As := [.int (nI (10)), .long (lN (2)), .long (lN (0))]) (st := []) dX11_join_198 kX11_join_275 s159 aEok0 rfl rfl (Nat.le_of_ble_eq_true rfl) (m_step hR (by decide) e1 (by decide) (by decide)) (fun ans' h' hq9 => ?_)
  obtain ⟨rfl, L3, rfl, e2, f2⟩ := hq9
  refine ⟨rfl, ?_⟩
  have h93 : hD L3 9 (prn 14 m) := hD_hK (hD_hK h9 (by decide) f1) (by decide) f2
  have h13 : hD L3 x (mrx d m 14) := hD_hK (hD_hK h1 (by omega) f1) (by omega) f2
  refine aX_aload_n dX11_join_201 rfl ?_
  refine aX_bipush (v := nI 10) dX11_join_202 (by decide) ?_
  refine aX_bipush (v := nI 9) dX11_join_204 (by decide) ?_
  refine cVp (As := [.int (nI (10)), .int (nI (9))]) (st := []) (v := .int (hCp (mrx d m 14 * 2 + 0) (prn 14 m))) dX11_join_206 kX11_join_265 s159 aEok0 rfl rfl (Nat.le_of_ble_eq_true rfl) (m_compare hR (by decide) (by decide) e2 h93 (by omega) (by omega)) ?_
  refine aX_if_gt (tgt := 214) dX11_join_209 (by decide) (fun c1 => ?_) (fun c1 => ?_)
  · have hgt := hCp_gt.mp c1
    have hvv := hval.2 (by omega)
    refine aX_aload_n dX11_join_214 rfl ?_
    refine aX_bipush (v := nI 10) dX11_join_215 (by decide) ?_
    refine aX_bipush (v := nI 9) dX11_join_217 (by decide) ?_
    refine cV (As := [.int (nI (10)), .int (nI (9))]) (st := []) dX11_join_219 kX11_join_272 s159 aEok0 rfl rfl (Nat.le_of_ble_eq_true rfl) (m_copy hR (by decide) (by decide) h93 (by decide)) (fun ans' h' hq9 => ?_)
    obtain ⟨rfl, L4, rfl, e3, f3⟩ := hq9
    refine ⟨rfl, ?_⟩
    refine aX_aload_n dX11_join_222 rfl ?_
    refine aX_bipush (v := nI 10) dX11_join_223 (by decide) ?_
    refine aX_iload_n dX11_join_225 rfl ?_
    refine cV (As := [.int (nI (10)), .int (nI (x))]) (st := []) dX11_join_226 kX11_join_268 s159 aEok0 rfl rfl (Nat.le_of_ble_eq_true rfl) (m_less hR (by decide) (by omega) e3 (hD_hK h13 (by omega) f3) (by omega) (by omega)) (fun ans' h' hq9 => ?_)
    obtain ⟨rfl, L5, rfl, e4, f4⟩ := hq9
    refine ⟨rfl, ?_⟩
    refine aX_aload_n dX11_join_229 rfl ?_
    refine aX_iload_n dX11_join_230 rfl ?_
    refine aX_bipush (v := nI 10) dX11_join_231 (by decide) ?_
    refine cV (As := [.int (nI (x)), .int (nI (10))]) (st := []) dX11_join_233 kX11_join_272 s159 aEok0 rfl rfl (Nat.le_of_ble_eq_true rfl) (m_copy hR (by omega) (by decide) e4 (by omega)) (fun ans' h' hq9 => ?_)
    obtain ⟨rfl, L6, rfl, e5, f5⟩ := hq9
    refine ⟨rfl, ?_⟩
    refine aX_iconst (v := nI 1) dX11_join_236 (by decide) ?_
    exact rZ dX11_join_237 rfl (Or.inr rfl) (⟨by rw [hvv.1]; rfl, L6, rfl, by rw [← hvv.2]; exact e5, fun q j a1 a2 => (f5 q j (by omega)).trans ((f4 q j (by omega)).trans ((f3 q j (by omega)).trans ((f2 q j (by omega)).trans ((f1 q j (by omega)).trans (hk0 q j a1 a2)))))⟩)
  · have hgt : ¬ prn 14 m < mrx d m 14 * 2 + 0 := fun z => c1 (hCp_gt.mpr z)
    have hvv := hval.1 (by omega)
    refine aX_iconst (v := nI 0) dX11_join_212 (by decide) ?_
    exact rZ dX11_join_213 rfl (Or.inl rfl) (⟨by rw [hvv.1]; rfl, L3, rfl, by rw [← hvv.2]; exact h13, fun q j a1 a2 => (f2 q j (by omega)).trans ((f1 q j (by omega)).trans (hk0 q j a1 a2))⟩)
set_option maxHeartbeats 1000000 in
theorem ml_jnS {I : Nat → Nat → Int32} {L : Nat → Nat → Int64} {R : Nat → Nat → Option Nat} (hR : aRf R) {x a : Nat} (hx : x < 9) (ha : a < 22) {m d : Nat → Nat} {y : Int} (hy : (y.natAbs : Int) < 2 ^ 400) {L0 : Nat → Nat → Int64} (hm : pmOk L0 m) (hd : dgO L0 14 m d y) : ∀ (k9 k : Nat), k ≤ 14 → 14 - k = k9 → ∀ (L1 : Nat → Nat → Int64), hD L1 x (mrx d m k) → hD L1 9 (prn k m) → (∀ q j, q ≠ 192 → ¬ (q = 191 ∧ ((18 * x ≤ j ∧ j < 18 * x + 18) ∨ (162 ≤ j ∧ j < 198))) → L1 q j = L q j) → (∀ j, j < 14 → L1 192 j = L0 192 j) → (∀ j, j < 14 → L1 188 j = L0 188 j) → aX mX11_join aE0 (sh0, I, L1, R) 146 [(0, .ref 159), (1, .int (nI (x))), (2, .int (nI (a))), (3, .int (nI (k)))] [] 0 0 (fun ans h' => ans = some (.int (bI (decide (y < 0)))) ∧ ∃ L', h' = (sh0, I, L', R) ∧ hD L' x y.natAbs ∧ (∀ q j, q ≠ 192 → ¬ (q = 191 ∧ ((18 * x ≤ j ∧ j < 18 * x + 18) ∨ (162 ≤ j ∧ j < 198))) → L' q j = L q j)) := by
  intro k9
  induction k9 using Nat.strongRecOn with
  | _ k9 ih =>
    intro k hi hk9 L1  h1 h9 hk0 h192 h188
    refine aX_iload_n dX11_join_146 rfl ?_
    refine aX_bipush (v := nI 14) dX11_join_147 (by decide) ?_
    refine nGe (tgt := 184) dX11_join_149 (by decide) (by first | omega | exact Nat.lt_of_le_of_lt (Nat.mod_le _ _) (by omega)) (by first | omega | exact Nat.lt_of_le_of_lt (Nat.mod_le _ _) (by omega)) (fun c1 => ?_) (fun c1 => ?_)
    · exact ml_jnE hR hx ha hy hm hd (k := k) (by omega) h1 h9 hk0
    · have hdk := (hd k c1).2.1
      have hmk := hm.1 k c1
      refine aX_aload_n dX11_join_152 rfl ?_
      refine aX_iload_n dX11_join_153 rfl ?_
      refine aX_bipush (v := nI 9) dX11_join_154 (by decide) ?_
      refine aX_aload_n dX11_join_156 rfl ?_
      refine aX_get dX11_join_157 lfX11_116 s159 (f159_41 hR) ?_
      refine aX_iload_n dX11_join_160 rfl ?_
      refine nLald (v := lN (d k)) dX11_join_161 s192 (by first | omega | exact Nat.lt_of_le_of_lt (Nat.mod_le _ _) (by omega)) (by decide) ((h192 k (by omega)).trans (hd k (by omega)).1) ?_
      refine cV (As := [.int (nI (x)), .int (nI (9)), .long (lN (d k))]) (st := []) dX11_join_162 kX11_join_286 s159 aEok0 rfl rfl (Nat.le_of_ble_eq_true rfl) (m_add hR (by omega) (by decide) h1 h9 (by omega) (by omega)) (fun ans' h' hq9 => ?_)
      obtain ⟨rfl, L2, rfl, g1, g2⟩ := hq9
      refine ⟨rfl, ?_⟩
      refine aX_aload_n dX11_join_165 rfl ?_
      refine aX_bipush (v := nI 9) dX11_join_166 (by decide) ?_
      refine aX_aload_n dX11_join_168 rfl ?_
      refine aX_get dX11_join_169 lfX11_104 s159 (f159_37 hR) ?_
      refine aX_iload_n dX11_join_172 rfl ?_
      refine nLald (v := lN (m k)) dX11_join_173 s188 (by first | omega | exact Nat.lt_of_le_of_lt (Nat.mod_le _ _) (by omega)) (by decide) ((g2 188 k (by omega)).trans ((h188 k (by omega)).trans (hm.1 k (by omega)).1)) ?_
      refine aX_lconst (v := lN 0) dX11_join_174 rfl ?_
      refine cV (As := [.int (nI (9)), .long (lN (m k)), .long (lN (0))]) (st := []) dX11_join_175 kX11_join_275 s159 aEok0 rfl rfl (Nat.le_of_ble_eq_true rfl) (m_step hR (by decide) (hD_hK h9 (by omega) g2) (by omega) (by decide)) (fun ans' h' hq9 => ?_)
      obtain ⟨rfl, L3, rfl, g3, g4⟩ := hq9
      refine ⟨rfl, ?_⟩
      refine nInc (lv' := [(0, .ref 159), (1, .int (nI (x))), (2, .int (nI (a))), (3, .int (nI (k + 1)))]) dX11_join_178 rfl rfl (by decide) rfl ?_
      refine aX_goto (tgt := 146) dX11_join_181 (by decide) ?_
      exact ih (14 - (k + 1)) (by omega) (k + 1) (by omega) rfl L3 (by
        show hD L3 x (mrx d m k + d k * prn k m)
        rw [Nat.mul_comm]
        exact hD_hK g1 (by omega) g4) g3 (fun q j a1 a2 => (g4 q j (by omega)).trans ((g2 q j (by omega)).trans (hk0 q j a1 a2))) (fun j hj => (g4 192 j (by omega)).trans ((g2 192 j (by omega)).trans (h192 j hj))) (fun j hj => (g4 188 j (by omega)).trans ((g2 188 j (by omega)).trans (h188 j hj)))
set_option maxHeartbeats 1000000 in
theorem ml_jn {I : Nat → Nat → Int32} {L : Nat → Nat → Int64} {R : Nat → Nat → Option Nat} (hR : aRf R) {x a : Nat} (hx : x < 9) (ha : a < 22) {m : Nat → Nat} {y : Int} (hm : pmOk L m) (hv : ∀ k, k < 14 → ∃ v : Nat, L 189 (22 * k + a) = lN v ∧ v < m k ∧ cg (m k) (v : Int) y) (hy : (y.natAbs : Int) < 2 ^ 400) : ∀ (k9 k : Nat), k ≤ 14 → 14 - k = k9 → ∀ (L1 : Nat → Nat → Int64) (d : Nat → Nat), dgO L1 k m d y → (∀ q j, q ≠ 192 → L1 q j = L q j) → aX mX11_join aE0 (sh0, I, L1, R) 2 [(0, .ref 159), (1, .int (nI (x))), (2, .int (nI (a))), (3, .int (nI (k)))] [] 0 0 (fun ans h' => ans = some (.int (bI (decide (y < 0)))) ∧ ∃ L', h' = (sh0, I, L', R) ∧ hD L' x y.natAbs ∧ (∀ q j, q ≠ 192 → ¬ (q = 191 ∧ ((18 * x ≤ j ∧ j < 18 * x + 18) ∨ (162 ≤ j ∧ j < 198))) → L' q j = L q j)) := by
  intro k9
  induction k9 using Nat.strongRecOn with
  | _ k9 ih =>
    intro k hi hk9 L1  d  hd hk0
    refine aX_iload_n dX11_join_2 rfl ?_
    refine aX_bipush (v := nI 14) dX11_join_3 (by decide) ?_
    refine nGe (tgt := 124) dX11_join_5 (by decide) (by first | omega | exact Nat.lt_of_le_of_lt (Nat.mod_le _ _) (by omega)) (by first | omega | exact Nat.lt_of_le_of_lt (Nat.mod_le _ _) (by omega)) (fun c1 => ?_) (fun c1 => ?_)
    · refine aX_aload_n dX11_join_124 rfl ?_
      refine aX_iload_n dX11_join_125 rfl ?_
      refine cV (As := [.int (nI (x))]) (st := []) dX11_join_126 kX11_join_279 s159 aEok0 rfl rfl (Nat.le_of_ble_eq_true rfl) (m_zero hR (by omega)) (fun ans' h' hq9 => ?_)
      obtain ⟨rfl, L2, rfl, g1, g2⟩ := hq9
      refine ⟨rfl, ?_⟩
      refine aX_aload_n dX11_join_129 rfl ?_
      refine aX_bipush (v := nI 9) dX11_join_130 (by decide) ?_
      refine cV (As := [.int (nI (9))]) (st := []) dX11_join_132 kX11_join_279 s159 aEok0 rfl rfl (Nat.le_of_ble_eq_true rfl) (m_zero hR (by decide)) (fun ans' h' hq9 => ?_)
      obtain ⟨rfl, L3, rfl, g3, g4⟩ := hq9
      refine ⟨rfl, ?_⟩
      refine aX_aload_n dX11_join_135 rfl ?_
      refine aX_get dX11_join_136 lfX11_113 s159 (f159_40 hR) ?_
      refine aX_sipush (v := nI 162) dX11_join_139 (by decide) ?_
      refine aX_lconst (v := lN 1) dX11_join_142 rfl ?_
      refine nLast dX11_join_143 s191 (by first | omega | exact Nat.lt_of_le_of_lt (Nat.mod_le _ _) (by omega)) (by decide) ?_
      refine aX_iconst (v := nI 0) dX11_join_144 (by decide) ?_
      refine aX_istore_n (lv' := [(0, .ref 159), (1, .int (nI (x))), (2, .int (nI (a))), (3, .int (nI (0)))]) dX11_join_145 (by decide) rfl ?_
      exact ml_jnS hR hx ha hy (L0 := L1) ⟨fun j hj => ⟨(hk0 188 j (by omega)).trans (hm.1 j hj).1, (hm.1 j hj).2⟩, hm.2⟩ (by rw [show 14 = k by omega]; exact hd) _ 0 (by omega) rfl _ (fun i hi => by rw [aU_n (by omega)]; exact hD_hK g1 (by omega) g4 i hi) (hD_one g3) (fun q j a1 a2 => by rw [aU_n (by omega)]; exact (g4 q j (by omega)).trans ((g2 q j (by omega)).trans (hk0 q j a1))) (fun j hj => by rw [aU_n (by omega)]; exact (g4 192 j (by omega)).trans (g2 192 j (by omega))) (fun j hj => by rw [aU_n (by omega)]; exact (g4 188 j (by omega)).trans (g2 188 j (by omega)))
    · have hkl : k < 14 := c1
      have hmk := hm.1 k hkl
      obtain ⟨v, hv1, hv2, hv3⟩ := hv k hkl
      refine aX_aload_n dX11_join_8 rfl ?_
      refine aX_get dX11_join_9 lfX11_104 s159 (f159_37 hR) ?_
      refine aX_iload_n dX11_join_12 rfl ?_
      refine nLald (v := lN (m k)) dX11_join_13 s188 (by first | omega | exact Nat.lt_of_le_of_lt (Nat.mod_le _ _) (by omega)) (by decide) ((hk0 188 k (by omega)).trans hmk.1) ?_
      refine aX_lstore (lv' := [(0, .ref 159), (1, .int (nI (x))), (2, .int (nI (a))), (3, .int (nI (k))), (4, .long (lN (m k)))]) dX11_join_14 (by decide) rfl ?_
      refine aX_aload_n dX11_join_16 rfl ?_
      refine aX_get dX11_join_17 lfX11_107 s159 (f159_38 hR) ?_
      refine aX_bipush (v := nI 22) dX11_join_20 (by decide) ?_
      refine aX_iload_n dX11_join_22 rfl ?_
      refine nMul dX11_join_23 ?_
      refine aX_iload_n dX11_join_24 rfl ?_
      refine nAdd dX11_join_25 ?_
      refine nLald (v := lN (v)) dX11_join_26 s189 (by first | omega | exact Nat.lt_of_le_of_lt (Nat.mod_le _ _) (by omega)) (by decide) ((hk0 189 _ (by omega)).trans hv1) ?_
      refine aX_lstore (lv' := [(0, .ref 159), (1, .int (nI (x))), (2, .int (nI (a))), (3, .int (nI (k))), (4, .long (lN (m k))), (6, .long (lN (v)))]) dX11_join_27 (by decide) rfl ?_
      refine aX_lconst (v := lN 1) dX11_join_29 rfl ?_
      refine aX_lstore (lv' := [(0, .ref 159), (1, .int (nI (x))), (2, .int (nI (a))), (3, .int (nI (k))), (4, .long (lN (m k))), (6, .long (lN (v))), (8, .long (lN (1)))]) dX11_join_30 (by decide) rfl ?_
      refine aX_lconst (v := lN 0) dX11_join_32 rfl ?_
      refine aX_lstore (lv' := [(0, .ref 159), (1, .int (nI (x))), (2, .int (nI (a))), (3, .int (nI (k))), (4, .long (lN (m k))), (6, .long (lN (v))), (8, .long (lN (1))), (10, .long (lN (0)))]) dX11_join_33 (by decide) rfl ?_
      refine aX_iconst (v := nI 0) dX11_join_35 (by decide) ?_
      refine aX_istore (lv' := [(0, .ref 159), (1, .int (nI (x))), (2, .int (nI (a))), (3, .int (nI (k))), (4, .long (lN (m k))), (6, .long (lN (v))), (8, .long (lN (1))), (10, .long (lN (0))), (12, .int (nI (0)))]) dX11_join_36 (by decide) rfl ?_
      have hm1 : pmOk L1 m := ⟨fun j hj => ⟨(hk0 188 j (by omega)).trans (hm.1 j hj).1, (hm.1 j hj).2⟩, hm.2⟩
      have e1 : (lN 1 : Int64) = lN (prn 0 m % m k) := by rw [show prn 0 m = 1 from rfl, Nat.mod_eq_of_lt (by omega)]
      have e0 : (lN 0 : Int64) = lN (mrx d m 0 % m k) := by rw [show mrx d m 0 = 0 from rfl, Nat.zero_mod]
      rw [e1, e0]
      refine ml_jnIn (L := L) hR hx ha hkl hm1 hd ?_ _ 0 (by omega) rfl
      have ht1 : mrx d m k % m k < m k := Nat.mod_lt _ (by omega)
      have ht2 : prn k m % m k < m k := Nat.mod_lt _ (by omega)
      refine aX_aload_n dX11_join_89 rfl ?_
      refine aX_get dX11_join_90 lfX11_116 s159 (f159_41 hR) ?_
      refine aX_iload_n dX11_join_93 rfl ?_
      refine aX_aload_n dX11_join_94 rfl ?_
      refine aX_lload dX11_join_95 rfl ?_
      refine aX_lload dX11_join_97 rfl ?_
      refine ySub (a := ((v : Nat) : Int)) (b := ((mrx d m k % m k : Nat) : Int)) dX11_join_99 (kZ _) (kZ _) ?_
      refine aX_lload dX11_join_100 rfl ?_
      refine cVp (As := [.long (lZ ((((v : Nat) : Int)) - (((mrx d m k % m k : Nat) : Int)))), .long (lN (m k))]) (st := [.int (nI (k)), .ref 192]) (v := .long (lN (((((v : Nat) : Int) - ((mrx d m k % m k : Nat) : Int)) % ((m k : Nat) : Int)).toNat))) dX11_join_102 kX11_join_230 s159 aEok0 rfl rfl (Nat.le_of_ble_eq_true rfl) (m_mod (by omega) (by omega) (by omega) (by omega)) ?_
      refine aX_aload_n dX11_join_105 rfl ?_
      refine aX_lload dX11_join_106 rfl ?_
      refine aX_lload dX11_join_108 rfl ?_
      have hn0 := Int.emod_nonneg (((v : Nat) : Int) - ((mrx d m k % m k : Nat) : Int)) (show ((m k : Nat) : Int) ≠ 0 by omega)
      have hn1 := Int.emod_lt_of_pos (((v : Nat) : Int) - ((mrx d m k % m k : Nat) : Int)) (show (0 : Int) < ((m k : Nat) : Int) by omega)
      have hiv : (prn k m % m k) ^ (m k - 2) % m k < m k := Nat.mod_lt _ (by omega)
      have hpm := mul_lt62 (p := m k) (a := ((((v : Nat) : Int) - ((mrx d m k % m k : Nat) : Int)) % ((m k : Nat) : Int)).toNat) (by omega) hiv (by omega)
      refine cVp (As := [.long (lN (prn k m % m k)), .long (lN (m k))]) (st := [.long (lN (((((v : Nat) : Int) - ((mrx d m k % m k : Nat) : Int)) % ((m k : Nat) : Int)).toNat)), .int (nI (k)), .ref 192]) (v := .long (lN ((prn k m % m k) ^ (m k - 2) % m k))) dX11_join_110 kX11_join_234 s159 aEok0 rfl rfl (Nat.le_of_ble_eq_true rfl) (m_inverse (by omega) (by omega) ht2) ?_
      refine kMul dX11_join_113 ?_
      refine aX_lload dX11_join_114 rfl ?_
      refine kRem dX11_join_116 (by first | omega | exact Nat.lt_of_le_of_lt (Nat.mod_le _ _) (by omega)) (by first | omega | exact Nat.lt_of_le_of_lt (Nat.mod_le _ _) (by omega)) (by first | omega | exact Nat.lt_of_le_of_lt (Nat.mod_le _ _) (by omega)) ?_
      refine nLast dX11_join_117 s192 (by first | omega | exact Nat.lt_of_le_of_lt (Nat.mod_le _ _) (by omega)) (by decide) ?_
      refine nInc (lv' := [(0, .ref 159), (1, .int (nI (x))), (2, .int (nI (a))), (3, .int (nI (k + 1))), (4, .long (lN (m k))), (6, .long (lN (v))), (8, .long (lN (prn k m % m k))), (10, .long (lN (mrx d m k % m k))), (12, .int (nI (k)))]) dX11_join_118 rfl rfl (by decide) rfl ?_
      refine aX_goto (tgt := 2) dX11_join_121 (by decide) ?_
      refine aX_lv (lv' := [(0, .ref 159), (1, .int (nI (x))), (2, .int (nI (a))), (3, .int (nI (k + 1)))]) [0, 1, 2, 3] rfl ?_
      have hcc := dg_cg (p := m k) (mr := mrx d m k) (M := prn k m) (inv := (prn k m % m k) ^ (m k - 2) % m k) (v := v) (kn := mrx d m k % m k) (y := y) (sg := 1) (natmod_cg _ _) (inv_cg2 hmk.2.1 (fun j hj => ⟨(hm.1 j (by omega)).2.1, fun e => by have := hm.2 j k (by omega) hkl e; omega⟩)) hv3 (by omega)
      rw [Int.one_mul, Int.one_mul] at hcc
      exact ih (14 - (k + 1)) (by omega) (k + 1) (by omega) rfl _ _ (dgO_s hd (Nat.mod_lt _ (by omega)) hcc) (fun q j g => by rw [aU_n (by omega)]; exact hk0 q j g)
set_option maxHeartbeats 1000000 in
theorem m_join {I : Nat → Nat → Int32} {L : Nat → Nat → Int64} {R : Nat → Nat → Option Nat} (hR : aRf R) {x a : Nat} (hx : x < 9) (ha : a < 22) {m : Nat → Nat} {y : Int} (hm : pmOk L m) (hv : ∀ k, k < 14 → ∃ v : Nat, L 189 (22 * k + a) = lN v ∧ v < m k ∧ cg (m k) (v : Int) y) (hy : (y.natAbs : Int) < 2 ^ 400) : aM mX11_join [.ref 159, .int (nI x), .int (nI a)] (sh0, I, L, R) (fun ans h' => ans = some (.int (bI (decide (y < 0)))) ∧ ∃ L', h' = (sh0, I, L', R) ∧ hD L' x y.natAbs ∧ (∀ q j, q ≠ 192 → ¬ (q = 191 ∧ ((18 * x ≤ j ∧ j < 18 * x + 18) ∨ (162 ≤ j ∧ j < 198))) → L' q j = L q j)) := by
  refine aM_of plX11_join (Nat.le_of_ble_eq_true rfl) ?_
  refine aX_iconst (v := nI 0) dX11_join_0 (by decide) ?_
  refine aX_istore_n (lv' := [(0, .ref 159), (1, .int (nI (x))), (2, .int (nI (a))), (3, .int (nI (0)))]) dX11_join_1 (by decide) rfl ?_
  exact ml_jn hR hx ha hm hv hy _ 0 (by omega) rfl L (fun _ => 0) (fun j h => by omega) (fun _ _ _ => rfl)
set_option maxHeartbeats 1000000 in
theorem m_fraction {I : Nat → Nat → Int32} {L : Nat → Nat → Int64} {R : Nat → Nat → Option Nat} (hR : aRf R) {a : Nat} (ha : a < 22) {m : Nat → Nat} {y D : Int} (hm : pmOk L m) (hv : ∀ k, k < 14 → ∃ v : Nat, L 189 (22 * k + a) = lN v ∧ v < m k ∧ cg (m k) (v : Int) y) (hv2 : ∀ k, k < 14 → ∃ v : Nat, L 189 (22 * k + 20) = lN v ∧ v < m k ∧ cg (m k) (v : Int) D) (hy : (y.natAbs : Int) < 2 ^ 400) (hD9 : (D.natAbs : Int) < 2 ^ 400) (hD0 : 0 < D) : aM mX11_fraction [.ref 159, .int (nI a)] (sh0, I, L, R) (fun ans h' => ans = some (.int (bI (decide (y < 0)))) ∧ ∃ L', h' = (sh0, I, L', R) ∧ hD L' 0 y.natAbs ∧ hD L' 1 D.natAbs ∧ (∀ q j, q ≠ 192 → ¬ (q = 191 ∧ (j < 36 ∨ 162 ≤ j)) → L' q j = L q j)) := by
  refine aM_of plX11_fraction (Nat.le_of_ble_eq_true rfl) ?_
  refine aX_aload_n dX11_fraction_0 rfl ?_
  refine aX_iconst (v := nI 1) dX11_fraction_1 (by decide) ?_
  refine aX_bipush (v := nI 20) dX11_fraction_2 (by decide) ?_
  refine cV (As := [.int (nI (1)), .int (nI (20))]) (st := []) dX11_fraction_4 kX11_fraction_307 s159 aEok0 rfl rfl (Nat.le_of_ble_eq_true rfl) (m_join hR (by decide) (by decide) hm hv2 hD9) (fun ans' h' hq9 => ?_)
  obtain ⟨rfl, L2, rfl, g1, g2⟩ := hq9
  refine ⟨rfl, ?_⟩
  rw [show decide (D < 0) = false from decide_eq_false (by omega)]
  refine aX_istore_n (lv' := [(0, .ref 159), (1, .int (nI (a))), (2, .int (bI (false)))]) dX11_fraction_7 (by decide) rfl ?_
  refine aX_aload_n dX11_fraction_8 rfl ?_
  refine aX_iconst (v := nI 0) dX11_fraction_9 (by decide) ?_
  refine aX_iload_n dX11_fraction_10 rfl ?_
  refine cV (As := [.int (nI (0)), .int (nI (a))]) (st := []) dX11_fraction_11 kX11_fraction_307 s159 aEok0 rfl rfl (Nat.le_of_ble_eq_true rfl) (m_join hR (x := 0) (by decide) ha (m := m) ⟨fun k hk => ⟨(g2 188 k (by omega) (by omega)).trans (hm.1 k hk).1, (hm.1 k hk).2⟩, hm.2⟩ (fun k hk => by obtain ⟨v, b1, b2⟩ := hv k hk; exact ⟨v, (g2 189 _ (by omega) (by omega)).trans b1, b2⟩) hy) (fun ans' h' hq9 => ?_)
  obtain ⟨rfl, L3, rfl, g3, g4⟩ := hq9
  refine ⟨rfl, ?_⟩
  refine aX_istore_n (lv' := [(0, .ref 159), (1, .int (nI (a))), (2, .int (bI (false))), (3, .int (bI (decide (y < 0))))]) dX11_fraction_14 (by decide) rfl ?_
  refine aX_iload_n dX11_fraction_15 rfl ?_
  refine aX_iload_n dX11_fraction_16 rfl ?_
  refine aX_icmp_eq (tgt := 24) dX11_fraction_17 (by decide) (fun c1 => ?_) (fun c1 => ?_)
  · refine aX_iconst (v := nI 0) dX11_fraction_24 (by decide) ?_
    exact rZ dX11_fraction_25 rfl (Or.inl rfl) (⟨by rw [show decide (y < 0) = false from bI_inj c1]; rfl, L3, rfl, g3, fun i hi => (g4 191 _ (by omega) (by omega)).trans (g1 i hi), fun q j a1 a2 => (g4 q j a1 (by omega)).trans (g2 q j a1 (by omega))⟩)
  · refine aX_iconst (v := nI 1) dX11_fraction_20 (by decide) ?_
    refine aX_goto (tgt := 25) dX11_fraction_21 (by decide) ?_
    exact rZ dX11_fraction_25 rfl (Or.inr rfl) (⟨by rw [show decide (y < 0) = true from (by
        have := c1
        cases e : decide (y < 0) with
        | true => rfl
        | false => rw [e] at this; exact absurd rfl this)]; rfl, L3, rfl, g3, fun i hi => (g4 191 _ (by omega) (by omega)).trans (g1 i hi), fun q j a1 a2 => (g4 q j a1 (by omega)).trans (g2 q j a1 (by omega))⟩)
