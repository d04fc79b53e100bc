/-! THE SOLVER: all primes -/
def rnOk (I : Nat → Nat → Int32) (L : Nat → Nat → Int64) (n i u : Nat) (m b : Nat → Nat) (Yf : Nat → Int) (D : Int) : Prop := u ≤ i ∧ u ≤ 11 ∧ mdRep I L u m ∧ (∀ j, j < u → ∃ a, a < i ∧ m j = jMo a) ∧ (∀ j k, j < u → k < u → m j = m k → j = k) ∧ (∀ j, j < u → rmOk L (101 + j) (m j) n Yf) ∧ (∀ j, j < i - u → (∃ a, a < i ∧ b j = jMo a) ∧ cg (b j) D 0) ∧ (∀ j k, j < i - u → k < i - u → b j = b k → j = k)
theorem mOk_of {u i : Nat} {m : Nat → Nat} (hi : i ≤ 20) (h : ∀ j, j < u → ∃ a, a < i ∧ m j = jMo a) (hd : ∀ j k, j < u → k < u → m j = m k → j = k) : mOk u m := ⟨fun j hj => by
  obtain ⟨a, h1, h2⟩ := h j hj
  have := jMo_in a (by omega)
  rw [h2]; exact ⟨jMo_P a (by omega), by omega, by omega⟩, hd⟩
theorem few_bad {n : Nat} {b : Nat → Nat} {D : Int} (hD0 : 0 < D) (hD : D < 2 ^ 264) (hb : ∀ j, j < n → (∃ a, a < 20 ∧ b j = jMo a) ∧ cg (b j) D 0) (hd : ∀ j k, j < n → k < n → b j = b k → j = k) : n < 9 := by
  refine Nat.lt_of_not_le (fun h9 => ?_)
  have h1 := prn_le_of_dvd (m := b) (n := 9) (z := D.toNat) (fun i hi => by
    obtain ⟨⟨a, h1, h2⟩, _⟩ := hb i (by omega)
    rw [h2]; exact jMo_P a h1) (fun i j hi hj e => hd i j (by omega) (by omega) e) (by omega) (fun i hi => by
    have := cg_zero.mp (hb i (by omega)).2
    have h2 := Int.ofNat_dvd_left.mp this
    rwa [show D.natAbs = D.toNat by omega] at h2)
  have h2 := prn_ge (m := b) (n := 9) (b := 1073741398) (fun i hi => by
    obtain ⟨⟨a, h1, h2⟩, _⟩ := hb i (by omega)
    have := jMo_in a h1
    omega)
  have h3 : (2 : Nat) ^ 264 ≤ 1073741398 ^ 9 := by decide +kernel
  have h4 : D < ((2 ^ 264 : Nat) : Int) := by rw [Int.natCast_pow]; exact hD
  have h5 : 2 ^ 264 ≤ D.toNat := Nat.le_trans h3 (Nat.le_trans h2 h1)
  omega
theorem big_enough {m : Nat → Nat} {y : Int} (hm : ∀ j, j < 11 → ∃ a, a < 20 ∧ m j = jMo a) (hy : (y.natAbs : Int) < 2 ^ 328) : (y.natAbs : Int) ≤ ((m 10 / 2 * prn 10 m : Nat) : Int) := by
  have h2 := prn_ge (m := m) (n := 10) (b := 1073741398) (fun i hi => by
    obtain ⟨a, h1, h2⟩ := hm i (by omega)
    have := jMo_in a h1
    omega)
  obtain ⟨a, h3, h4⟩ := hm 10 (by omega)
  have h5 := jMo_in a h3
  have h6 : 536870699 * 1073741398 ^ 10 ≤ m 10 / 2 * prn 10 m := Nat.mul_le_mul (by omega) h2
  have h7 : (2 : Nat) ^ 328 ≤ 536870699 * 1073741398 ^ 10 := by decide +kernel
  have h8 : (y.natAbs : Int) < ((2 ^ 328 : Nat) : Int) := by rw [Int.natCast_pow]; exact hy
  have h9 := Nat.le_trans h7 h6
  have h10 : y.natAbs < 2 ^ 328 := Int.ofNat_lt.mp h8
  exact Int.ofNat_le.mpr (Nat.le_of_lt (Nat.lt_of_lt_of_le h10 h9))
set_option maxHeartbeats 1000000 in
theorem l_runPut {I : Nat → Nat → Int32} {L : Nat → Nat → Int64} {R : Nat → Nat → Option Nat} (hR : aRf R) {n : Nat} (hn20 : n ≤ 20) {m : Nat → Nat} {Yf : Nat → Int} (hmk : mOk 11 m) (hmj : ∀ j, j < 11 → ∃ a, a < 20 ∧ m j = jMo a) (hby : ∀ a, (a < n ∨ a = 20 ∨ a = 21) → ((Yf a).natAbs : Int) < 2 ^ 328) : ∀ (k9 i : Nat), i ≤ n → n - i = k9 → ∀ (I1 : Nat → Nat → Int32) (L1 : Nat → Nat → Int64), I1 53 4 = nI n → mdRep I1 L1 11 m → (∀ j, j < 11 → rmOk L1 (101 + j) (m j) n Yf) → (∀ a, a < i → wR I1 (115 + 2 * a) ((Yf a).natAbs : Int) (decide (Yf a < 0))) → (∀ q j, ¬ (q = 77 ∧ j = 7) → (q < 115 ∨ 158 < q) → I1 q j = I q j) → (∀ q j, (q < 80 ∨ 114 < q) → L1 q j = L q j) → aX mX6_run aE0 (sh0, I1, L1, R) 62 [(0, .ref 77), (1, .int (nI (i)))] [] 0 0 (fun ans h' => ans = none ∧ ∃ I' L', h' = (sh0, I', L', R) ∧ (∀ a, (a < n ∨ a = 20 ∨ a = 21) → wR I' (115 + 2 * a) ((Yf a).natAbs : Int) (decide (Yf a < 0))) ∧ (∀ q j, ¬ (q = 77 ∧ j = 7) → (q < 115 ∨ 158 < q) → I' q j = I q j) ∧ (∀ q j, (q < 80 ∨ 114 < q) → L' q j = L q j)) := by
  intro k9
  induction k9 using Nat.strongRecOn with
  | _ k9 ih =>
    intro i hi hk9 I1  L1  hn4 hmd hrm hw hk hl
    refine aX_iload_n dX6_run_62 rfl ?_
    refine aX_aload_n dX6_run_63 rfl ?_
    refine aX_get dX6_run_64 lfX6_35 s77 (f77_0 hR) ?_
    refine aX_get (v := .int (nI (n))) dX6_run_67 lfX6_56 s53 (congrArg Value.int (hn4)) ?_
    refine nGe (tgt := 84) dX6_run_70 (by decide) (by first | omega | exact Nat.lt_of_le_of_lt (Nat.mod_le _ _) (by omega)) (by first | omega | exact Nat.lt_of_le_of_lt (Nat.mod_le _ _) (by omega)) (fun c1 => ?_) (fun c1 => ?_)
    · refine aX_aload_n dX6_run_84 rfl ?_
      refine aX_bipush (v := nI 20) dX6_run_85 (by decide) ?_
      refine cV (As := [.int (nI (20))]) (st := []) dX6_run_87 kX6_run_61 s77 aEok0 rfl rfl (Nat.le_of_ble_eq_true rfl) (c_putTogether hR (u := 10) (a := 20) (by omega) hmd hmk (Or.inr (Or.inl rfl)) hn20 hrm (big_enough hmj (hby _ (Or.inr (Or.inl rfl))))) (fun ans' h' hq9 => ?_)
      obtain ⟨rfl, J2, M2, rfl, w2, k2, l2⟩ := hq9
      refine ⟨rfl, ?_⟩
      have hmd2 : mdRep J2 M2 11 m := ⟨(k2 77 7 (by omega) (by omega)).trans hmd.1, fun j hj => (l2 _ _ (by omega)).trans (hmd.2.1 j hj), fun j hj => (l2 _ _ (by omega)).trans (hmd.2.2 j hj)⟩
      have hrm2 : ∀ j, j < 11 → rmOk M2 (101 + j) (m j) n Yf := fun j hj i hi => by
        obtain ⟨v, q1, q2⟩ := hrm j hj i hi
        exact ⟨v, (l2 _ _ (by omega)).trans q1, q2⟩
      refine aX_aload_n dX6_run_90 rfl ?_
      refine aX_bipush (v := nI 21) dX6_run_91 (by decide) ?_
      refine cV (As := [.int (nI (21))]) (st := []) dX6_run_93 kX6_run_61 s77 aEok0 rfl rfl (Nat.le_of_ble_eq_true rfl) (c_putTogether hR (u := 10) (a := 21) (by omega) hmd2 hmk (Or.inr (Or.inr rfl)) hn20 hrm2 (big_enough hmj (hby _ (Or.inr (Or.inr rfl))))) (fun ans' h' hq9 => ?_)
      obtain ⟨rfl, J3, M3, rfl, w3, k3, l3⟩ := hq9
      refine ⟨rfl, ?_⟩
      have hmd3 : mdRep J3 M3 11 m := ⟨(k3 77 7 (by omega) (by omega)).trans hmd2.1, fun j hj => (l3 _ _ (by omega)).trans (hmd2.2.1 j hj), fun j hj => (l3 _ _ (by omega)).trans (hmd2.2.2 j hj)⟩
      have hrm3 : ∀ j, j < 11 → rmOk M3 (101 + j) (m j) n Yf := fun j hj i hi => by
        obtain ⟨v, q1, q2⟩ := hrm2 j hj i hi
        exact ⟨v, (l3 _ _ (by omega)).trans q1, q2⟩
      exact rV dX6_run_96 rfl (⟨rfl, J3, M3, rfl, fun a ha => by
            have st : ∀ (I1 I2 : Nat → Nat → Int32) (o a : Nat) (x : Int) (ng : Bool), oK (115 + 2 * o) I1 I2 → a ≠ o → wR I1 (115 + 2 * a) x ng → wR I2 (115 + 2 * a) x ng := fun I1 I2 o a x ng h ne z => ⟨fun b hb => (h _ b (by omega) (by omega)).trans (z.1 b hb), (h _ 1 (by omega) (by omega)).trans z.2⟩
            by_cases e1 : a = 21
            · subst e1; exact w3
            · by_cases e2 : a = 20
              · subst e2; exact st _ _ _ _ _ _ k3 (by omega) w2
              · exact st _ _ _ _ _ _ k3 (by omega) (st _ _ _ _ _ _ k2 (by omega) (hw a (by omega))), fun q j g1 g2 => (k3 q j (by omega) (by omega)).trans ((k2 q j (by omega) (by omega)).trans (hk q j g1 g2)), fun q j g => (l3 q j (by omega)).trans ((l2 q j (by omega)).trans (hl q j g))⟩)
    · refine aX_aload_n dX6_run_73 rfl ?_
      refine aX_iload_n dX6_run_74 rfl ?_
      refine cV (As := [.int (nI (i))]) (st := []) dX6_run_75 kX6_run_61 s77 aEok0 rfl rfl (Nat.le_of_ble_eq_true rfl) (c_putTogether hR (u := 10) (a := i) (by omega) hmd hmk (Or.inl (by omega)) hn20 hrm (big_enough hmj (hby _ (Or.inl (by omega))))) (fun ans' h' hq9 => ?_)
      obtain ⟨rfl, J1, M1, rfl, w1, k1, l1⟩ := hq9
      refine ⟨rfl, ?_⟩
      have hmd1 : mdRep J1 M1 11 m := ⟨(k1 77 7 (by omega) (by omega)).trans hmd.1, fun j hj => (l1 _ _ (by omega)).trans (hmd.2.1 j hj), fun j hj => (l1 _ _ (by omega)).trans (hmd.2.2 j hj)⟩
      have hrm1 : ∀ j, j < 11 → rmOk M1 (101 + j) (m j) n Yf := fun j hj i hi => by
        obtain ⟨v, q1, q2⟩ := hrm j hj i hi
        exact ⟨v, (l1 _ _ (by omega)).trans q1, q2⟩
      refine nInc (lv' := [(0, .ref 77), (1, .int (nI (i + 1)))]) dX6_run_78 rfl rfl (by decide) rfl ?_
      refine aX_goto (tgt := 62) dX6_run_81 (by decide) ?_
      exact ih (n - (i + 1)) (by omega) (i + 1) (by omega) rfl J1 M1 ((k1 53 4 (by omega) (by omega)).trans hn4) hmd1 hrm1 (fun a ha => by
        by_cases e : a = i
        · subst e; exact w1
        · have z := hw a (by omega)
          exact ⟨fun b hb => (k1 _ b (by omega) (by omega)).trans (z.1 b hb), (k1 _ 1 (by omega) (by omega)).trans z.2⟩) (fun q j g1 g2 => (k1 q j (by omega) (by omega)).trans (hk q j g1 g2)) (fun q j g => (l1 q j (by omega)).trans (hl q j g))
set_option maxHeartbeats 1000000 in
theorem l_run {I : Nat → Nat → Int32} {L : Nat → Nat → Int64} {R : Nat → Nat → Option Nat} (hR : aRf R) {S : jQt} {n : Nat} (hn : I 53 4 = nI n) (hn20 : n ≤ 20) (hq : qRep L S) (hbd : sBd S n) {X : Nat → Int} (hXn : X n = - dt n S.1) (hX : ∀ i, i < n → sm n (fun j => S.1 i j * X j) + S.2.1 i * X n = 0) (hD0 : 0 < dt n S.1) (hD : dt n S.1 < 2 ^ 264) (hby : ∀ a, (a < n ∨ a = 20 ∨ a = 21) → (((yU n X (dt n S.1) (S.2.2 * dt n S.1 - sm n (fun i => S.2.1 i * X i))) a).natAbs : Int) < 2 ^ 328) : ∀ (k9 i : Nat), i ≤ 20 → 20 - i = k9 → ∀ (I1 : Nat → Nat → Int32) (L1 : Nat → Nat → Int64) (u : Nat) (m b : Nat → Nat), rnOk I1 L1 n i u m b (yU n X (dt n S.1) (S.2.2 * dt n S.1 - sm n (fun i => S.2.1 i * X i))) (dt n S.1) → (∀ q j, ¬ (q = 77 ∧ j = 7) → (q < 115 ∨ 158 < q) → I1 q j = I q j) → (∀ q j, (q < 80 ∨ 114 < q) → L1 q j = L q j) → aX mX6_run aE0 (sh0, I1, L1, R) 7 [(0, .ref 77), (1, .int (nI (i)))] [] 0 0 (fun ans h' => ans = none ∧ ∃ I' L', h' = (sh0, I', L', R) ∧ (∀ a, (a < n ∨ a = 20 ∨ a = 21) → wR I' (115 + 2 * a) (((yU n X (dt n S.1) (S.2.2 * dt n S.1 - sm n (fun i => S.2.1 i * X i))) a).natAbs : Int) (decide ((yU n X (dt n S.1) (S.2.2 * dt n S.1 - sm n (fun i => S.2.1 i * X i))) a < 0))) ∧ (∀ q j, ¬ (q = 77 ∧ j = 7) → (q < 115 ∨ 158 < q) → I' q j = I q j) ∧ (∀ q j, (q < 80 ∨ 114 < q) → L' q j = L q j)) := by
  intro k9
  induction k9 using Nat.strongRecOn with
  | _ k9 ih =>
    intro i hi hk9 I1  L1  u  m b  hrn hk hl
    obtain ⟨hui, hu11, hmd, hmj, hmi, hrm, hbb, hbi⟩ := hrn
    have hmo : i < 20 → 1073741398 < jMo i ∧ jMo i < 1073741824 ∧ jMo i % 2 = 1 := fun g => jMo_in i g
    refine aX_iload_n dX6_run_7 rfl ?_
    refine aX_bipush (v := nI 20) dX6_run_8 (by decide) ?_
    refine nGe (tgt := 60) dX6_run_10 (by decide) (by first | omega | exact Nat.lt_of_le_of_lt (Nat.mod_le _ _) (by omega)) (by first | omega | exact Nat.lt_of_le_of_lt (Nat.mod_le _ _) (by omega)) (fun c1 => ?_) (fun c1 => ?_)
    · refine aX_iconst (v := nI 0) dX6_run_60 (by decide) ?_
      refine aX_istore_n (lv' := [(0, .ref 77), (1, .int (nI (0)))]) dX6_run_61 (by decide) rfl ?_
      have hfb := few_bad (n := i - u) (b := b) hD0 hD (fun j hj => by
        obtain ⟨⟨a, q1, q2⟩, q3⟩ := hbb j hj
        exact ⟨⟨a, by omega, q2⟩, q3⟩) hbi
      obtain rfl : u = 11 := by omega
      have hmj20 : ∀ j, j < 11 → ∃ a, a < 20 ∧ m j = jMo a := fun j hj => by
        obtain ⟨a, q1, q2⟩ := hmj j hj
        exact ⟨a, by omega, q2⟩
      exact l_runPut hR hn20 (mOk_of (i := i) (by omega) hmj hmi) hmj20 hby _ 0 (by omega) rfl I1 L1 ((hk 53 4 (by omega) (by omega)).trans hn) hmd hrm (fun a ha => by omega) hk hl
    · refine aX_aload_n dX6_run_13 rfl ?_
      refine aX_get (v := .int (nI (u))) dX6_run_14 lfX6_40 s77 (congrArg Value.int (hmd.1)) ?_
      refine aX_bipush (v := nI 11) dX6_run_17 (by decide) ?_
      refine nGe (tgt := 60) dX6_run_19 (by decide) (by first | omega | exact Nat.lt_of_le_of_lt (Nat.mod_le _ _) (by omega)) (by first | omega | exact Nat.lt_of_le_of_lt (Nat.mod_le _ _) (by omega)) (fun c2 => ?_) (fun c2 => ?_)
      · refine aX_iconst (v := nI 0) dX6_run_60 (by decide) ?_
        refine aX_istore_n (lv' := [(0, .ref 77), (1, .int (nI (0)))]) dX6_run_61 (by decide) rfl ?_
        have hfb := few_bad (n := i - u) (b := b) hD0 hD (fun j hj => by
          obtain ⟨⟨a, q1, q2⟩, q3⟩ := hbb j hj
          exact ⟨⟨a, by omega, q2⟩, q3⟩) hbi
        obtain rfl : u = 11 := by omega
        have hmj20 : ∀ j, j < 11 → ∃ a, a < 20 ∧ m j = jMo a := fun j hj => by
          obtain ⟨a, q1, q2⟩ := hmj j hj
          exact ⟨a, by omega, q2⟩
        exact l_runPut hR hn20 (mOk_of (i := i) (by omega) hmj hmi) hmj20 hby _ 0 (by omega) rfl I1 L1 ((hk 53 4 (by omega) (by omega)).trans hn) hmd hrm (fun a ha => by omega) hk hl
      · refine aX_aload_n dX6_run_22 rfl ?_
        refine aX_gets (i := 6) dX6_run_23 rfl (Or.inr lgX6_44) ?_
        refine aX_iload_n dX6_run_26 rfl ?_
        refine nEld dX6_run_27 rfl (by first | omega | exact Nat.lt_of_le_of_lt (Nat.mod_le _ _) (by omega)) (by decide) (jMo_val i (by omega)) ?_
        refine kI2l dX6_run_28 (by first | omega | exact Nat.lt_of_le_of_lt (Nat.mod_le _ _) (by omega)) ?_
        refine aX_aload_n dX6_run_29 rfl ?_
        refine aX_get dX6_run_30 lfX6_22 s77 (f77_3 hR) ?_
        refine aX_aload_n dX6_run_33 rfl ?_
        refine aX_get (v := .int (nI (u))) dX6_run_34 lfX6_40 s77 (congrArg Value.int (hmd.1)) ?_
        refine nAald (r := 101 + u) dX6_run_37 s100 (by decide) (by first | omega | exact Nat.lt_of_le_of_lt (Nat.mod_le _ _) (by omega)) (by decide) (r100 hR u (by omega)) ?_
        refine cV (As := [.long (lN (jMo i)), .ref (101 + u)]) (st := []) dX6_run_38 kX6_run_48 s77 aEok0 rfl rfl (Nat.le_of_ble_eq_true rfl) (c_solveBy hR (u := u) (p := jMo i) ((hk 53 4 (by omega) (by omega)).trans hn) hn20 (by omega) (by omega) (by omega) ⟨fun i j hi hj => (hl _ _ (by omega)).trans (hq.1 i j hi hj), fun i hi => (hl _ _ (by omega)).trans (hq.2.1 i hi), (hl _ _ (by omega)).trans hq.2.2⟩ hbd (jMo_P i (by omega)) hXn hX) (fun ans' h' hq9 => ?_)
        obtain ⟨L2, rfl, hl2, hor⟩ := hq9
        rcases hor with ⟨rfl, hok⟩ | ⟨rfl, hbad⟩
        · refine ⟨rfl, ?_⟩
          have hmd2 : mdRep I1 L2 u m := ⟨hmd.1, fun j hj => (hl2 _ _ (by omega) (by omega)).trans (hmd.2.1 j hj), fun j hj => (hl2 _ _ (by omega) (by omega)).trans (hmd.2.2 j hj)⟩
          have hrm2 : ∀ j, j < u → rmOk L2 (101 + j) (m j) n (yU n X (dt n S.1) (S.2.2 * dt n S.1 - sm n (fun i => S.2.1 i * X i))) := fun j hj a ha => by
            obtain ⟨v, q1, q2⟩ := hrm j hj a ha
            exact ⟨v, (hl2 _ _ (by omega) (by omega)).trans q1, q2⟩
          refine nIf_eq (tgt := 54) dX6_run_41 (by decide) (by first | omega | exact Nat.lt_of_le_of_lt (Nat.mod_le _ _) (by omega)) (fun c3 => ?_) (fun c3 => ?_)
          · exact absurd c3 (by decide)
          · refine aX_aload_n dX6_run_44 rfl ?_
            refine aX_gets (i := 6) dX6_run_45 rfl (Or.inr lgX6_44) ?_
            refine aX_iload_n dX6_run_48 rfl ?_
            refine nEld dX6_run_49 rfl (by first | omega | exact Nat.lt_of_le_of_lt (Nat.mod_le _ _) (by omega)) (by decide) (jMo_val i (by omega)) ?_
            refine kI2l dX6_run_50 (by first | omega | exact Nat.lt_of_le_of_lt (Nat.mod_le _ _) (by omega)) ?_
            refine cV (As := [.long (lN (jMo i))]) (st := []) dX6_run_51 kX6_run_52 s77 aEok0 rfl rfl (Nat.le_of_ble_eq_true rfl) (c_useModulus hR (u := u) (by omega) hmd2 (mOk_of (i := i) (by omega) hmj hmi) (p := jMo i) (by omega) (by omega)) (fun ans' h' hq9 => ?_)
            obtain ⟨rfl, L3, rfl, hmd3, hl3⟩ := hq9
            refine ⟨rfl, ?_⟩
            refine nInc (lv' := [(0, .ref 77), (1, .int (nI (i + 1)))]) dX6_run_54 rfl rfl (by decide) rfl ?_
            refine aX_goto (tgt := 7) dX6_run_57 (by decide) ?_
            exact ih (20 - (i + 1)) (by omega) (i + 1) (by omega) rfl _ L3 (u + 1) (va_up m u (jMo i)) b ⟨by omega, by omega, hmd3, fun j hj => by
                by_cases e : j = u
                · exact ⟨i, by omega, by simp [va_up, e]⟩
                · obtain ⟨a, q1, q2⟩ := hmj j (by omega)
                  exact ⟨a, by omega, by simp [va_up, e]; exact q2⟩, fun j k hj hk e => by
                by_cases e1 : j = u
                · by_cases e2 : k = u
                  · omega
                  · obtain ⟨a, q1, q2⟩ := hmj k (by omega)
                    simp only [va_up, if_pos e1, if_neg e2] at e
                    rw [q2] at e
                    have := jMo_inj (by omega) (by omega) e
                    omega
                · by_cases e2 : k = u
                  · obtain ⟨a, q1, q2⟩ := hmj j (by omega)
                    simp only [va_up, if_neg e1, if_pos e2] at e
                    rw [q2] at e
                    have := jMo_inj (by omega) (by omega) e
                    omega
                  · simp only [va_up, if_neg e1, if_neg e2] at e
                    exact hmi j k (by omega) (by omega) e, fun j hj a ha => by
                by_cases e : j = u
                · subst e
                  obtain ⟨v, q1, q2, q3⟩ := hok a ha
                  exact ⟨v, (hl3 _ _ (by omega)).trans q1, by simp only [va_up, if_true]; exact ⟨q2, q3⟩⟩
                · obtain ⟨v, q1, q2, q3⟩ := hrm2 j (by omega) a ha
                  exact ⟨v, (hl3 _ _ (by omega)).trans q1, by simp only [va_up, if_neg e]; exact ⟨q2, q3⟩⟩, fun j hj => by
                obtain ⟨⟨a, q1, q2⟩, q3⟩ := hbb j (by omega)
                exact ⟨⟨a, by omega, q2⟩, q3⟩, fun j k hj hk e => hbi j k (by omega) (by omega) e⟩ (fun q j g1 g2 => by rw [aU_n (by omega)]; exact hk q j g1 g2) (fun q j g => (hl3 q j (by omega)).trans ((hl2 q j (by omega) (by omega)).trans (hl q j g)))
        · refine ⟨rfl, ?_⟩
          have hmd2 : mdRep I1 L2 u m := ⟨hmd.1, fun j hj => (hl2 _ _ (by omega) (by omega)).trans (hmd.2.1 j hj), fun j hj => (hl2 _ _ (by omega) (by omega)).trans (hmd.2.2 j hj)⟩
          have hrm2 : ∀ j, j < u → rmOk L2 (101 + j) (m j) n (yU n X (dt n S.1) (S.2.2 * dt n S.1 - sm n (fun i => S.2.1 i * X i))) := fun j hj a ha => by
            obtain ⟨v, q1, q2⟩ := hrm j hj a ha
            exact ⟨v, (hl2 _ _ (by omega) (by omega)).trans q1, q2⟩
          refine nIf_eq (tgt := 54) dX6_run_41 (by decide) (by first | omega | exact Nat.lt_of_le_of_lt (Nat.mod_le _ _) (by omega)) (fun c4 => ?_) (fun c4 => ?_)
          · refine nInc (lv' := [(0, .ref 77), (1, .int (nI (i + 1)))]) dX6_run_54 rfl rfl (by decide) rfl ?_
            refine aX_goto (tgt := 7) dX6_run_57 (by decide) ?_
            exact ih (20 - (i + 1)) (by omega) (i + 1) (by omega) rfl I1 L2 u m (va_up b (i - u) (jMo i)) ⟨by omega, by omega, hmd2, fun j hj => by
                obtain ⟨a, q1, q2⟩ := hmj j hj
                exact ⟨a, by omega, q2⟩, hmi, hrm2, fun j hj => by
                by_cases e : j = i - u
                · simp only [va_up, if_pos e]; exact ⟨⟨i, by omega, rfl⟩, hbad⟩
                · simp only [va_up, if_neg e]
                  obtain ⟨⟨a, q1, q2⟩, q3⟩ := hbb j (by omega)
                  exact ⟨⟨a, by omega, q2⟩, q3⟩, fun j k hj hk e => by
                by_cases e1 : j = i - u
                · by_cases e2 : k = i - u
                  · omega
                  · obtain ⟨⟨a, q1, q2⟩, _⟩ := hbb k (by omega)
                    simp only [va_up, if_pos e1, if_neg e2] at e
                    rw [q2] at e
                    have := jMo_inj (by omega) (by omega) e
                    omega
                · by_cases e2 : k = i - u
                  · obtain ⟨⟨a, q1, q2⟩, _⟩ := hbb j (by omega)
                    simp only [va_up, if_neg e1, if_pos e2] at e
                    rw [q2] at e
                    have := jMo_inj (by omega) (by omega) e
                    omega
                  · simp only [va_up, if_neg e1, if_neg e2] at e
                    exact hbi j k (by omega) (by omega) e⟩ hk (fun q j g => (hl2 q j (by omega) (by omega)).trans (hl q j g))
          · exact absurd c4 (by decide)
set_option maxHeartbeats 1000000 in
theorem c_run {I : Nat → Nat → Int32} {L : Nat → Nat → Int64} {R : Nat → Nat → Option Nat} (hR : aRf R) {S : jQt} {n : Nat} (hn : I 53 4 = nI n) (hn20 : n ≤ 20) (hq : qRep L S) (hbd : sBd S n) {X : Nat → Int} (hXn : X n = - dt n S.1) (hX : ∀ i, i < n → sm n (fun j => S.1 i j * X j) + S.2.1 i * X n = 0) (hD0 : 0 < dt n S.1) (hD : dt n S.1 < 2 ^ 264) (hby : ∀ a, (a < n ∨ a = 20 ∨ a = 21) → (((yU n X (dt n S.1) (S.2.2 * dt n S.1 - sm n (fun i => S.2.1 i * X i))) a).natAbs : Int) < 2 ^ 328) : aM mX6_run [.ref 77] (sh0, I, L, R) (fun ans h' => ans = none ∧ ∃ I' L', h' = (sh0, I', L', R) ∧ (∀ a, (a < n ∨ a = 20 ∨ a = 21) → wR I' (115 + 2 * a) (((yU n X (dt n S.1) (S.2.2 * dt n S.1 - sm n (fun i => S.2.1 i * X i))) a).natAbs : Int) (decide ((yU n X (dt n S.1) (S.2.2 * dt n S.1 - sm n (fun i => S.2.1 i * X i))) a < 0))) ∧ (∀ q j, ¬ (q = 77 ∧ j = 7) → (q < 115 ∨ 158 < q) → I' q j = I q j) ∧ (∀ q j, (q < 80 ∨ 114 < q) → L' q j = L q j)) := by
  refine aM_of plX6_run (Nat.le_of_ble_eq_true rfl) ?_
  refine aX_aload_n dX6_run_0 rfl ?_
  refine aX_iconst (v := nI 0) dX6_run_1 (by decide) ?_
  refine pI dX6_run_2 lfX6_40 (fun _ _ _ hq => by cases hq; exact Or.inl rfl) s77 rfl ?_
  refine aX_iconst (v := nI 0) dX6_run_5 (by decide) ?_
  refine aX_istore_n (lv' := [(0, .ref 77), (1, .int (nI (0)))]) dX6_run_6 (by decide) rfl ?_
  exact l_run hR hn hn20 hq hbd hXn hX hD0 hD hby _ 0 (by omega) rfl _ L 0 (fun _ => 0) (fun _ => 0) ⟨by omega, by omega, ⟨aU_s, fun j hj => by omega, fun j hj => by omega⟩, fun j hj => by omega, fun j k hj => by omega, fun j hj => by omega, fun j hj => by omega, fun j k hj => by omega⟩ (fun q j g1 g2 => by rw [aU_n g1]) (fun _ _ _ => rfl)
