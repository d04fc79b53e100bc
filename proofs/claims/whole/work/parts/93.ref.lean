/-! THE REFERENCE BY A PRIME: the answers -/
set_option maxHeartbeats 1000000 in
theorem ml_pEn {I : Nat → Nat → Int32} {L : Nat → Nat → Int64} {R : Nat → Nat → Option Nat} (hR : aRf R) {n : Nat} (hn : I 159 21 = nI n) (hn20 : n ≤ 20) {p : Nat} (hp : 2 ≤ p) (hp2 : p ≤ 2147483648) {S : jQt} {lo : Nat → Bool} {ev : Nat → Nat} (hS : rsRep L n S) (hlo : ∀ i, i < n → I 186 i = bI (lo i)) (hev : ∀ i, i < n → I 184 i = nI (ev i) ∧ ev i < 2147483648) (hbd : sBd S n) {X : Nat → Int} {g : Nat} (hg : I 159 36 = nI g) (hg14 : g < 14) (hXn : X n = - dt n (lsA S lo)) {W : Nx} {d : Nat} (hdp : d < p) (he : eG p n (lsA S lo) X W d n) {L0 : Nat → Nat → Int64} (hw : wkR L0 W n) : ∀ (k9 i : Nat), i ≤ n → n - i = k9 → ∀ (L1 : Nat → Nat → Int64) (ev9 : Nat), (∀ a, a < i → ∃ v : Nat, L1 189 (22 * g + a) = lN v ∧ v < p ∧ cg p (v : Int) (X a)) → ev9 < p → cg p (ev9 : Int) (S.2.2 * dt n (lsA S lo) - sm i (fun j => S.2.1 j * X j)) → (∀ q j, q ≠ 190 → ¬ (q = 188 ∧ j = g) → ¬ (q = 189 ∧ 22 * g ≤ j ∧ j < 22 * g + 22) → L1 q j = L q j) → L1 188 g = lN p → (∀ q j, q = 190 → L1 q j = L0 q j) → aX mX11_byPrime aE0 (sh0, I, L1, R) 510 [(0, .ref 159), (1, .long (lN (p))), (3, .int (nI (n))), (4, .long (lN (d))), (6, .long (lN (ev9))), (8, .int (nI (i)))] [] 0 0 (fun ans h' => ∃ L', (∀ q j, q ≠ 190 → ¬ (q = 188 ∧ j = g) → ¬ (q = 189 ∧ 22 * g ≤ j ∧ j < 22 * g + 22) → L' q j = L q j) ∧ (ans = some (.int (nI 1)) ∧ h' = (sh0, aU I 159 36 (nI (g + 1)), L', R) ∧ L' 188 g = lN p ∧ ∀ a, (a < n ∨ a = 20 ∨ a = 21) → ∃ v : Nat, L' 189 (22 * g + a) = lN v ∧ v < p ∧ cg p (v : Int) (yU n X (dt n (lsA S lo)) (S.2.2 * dt n (lsA S lo) - sm n (fun i => S.2.1 i * X i)) a))) := by
  intro k9
  induction k9 using Nat.strongRecOn with
  | _ k9 ih =>
    intro i hi hk9 L1  ev9  hA hevl hev9 hk h188 h190
    refine aX_iload dX11_byPrime_510 rfl ?_
    refine aX_iload_n dX11_byPrime_512 rfl ?_
    refine nGe (tgt := 586) dX11_byPrime_513 (by decide) (by first | omega | exact Nat.lt_of_le_of_lt (Nat.mod_le _ _) (by omega)) (by first | omega | exact Nat.lt_of_le_of_lt (Nat.mod_le _ _) (by omega)) (fun c1 => ?_) (fun c1 => ?_)
    · refine aX_aload_n dX11_byPrime_586 rfl ?_
      refine aX_get dX11_byPrime_587 lfX11_107 s159 (f159_38 hR) ?_
      refine aX_bipush (v := nI 22) dX11_byPrime_590 (by decide) ?_
      refine aX_aload_n dX11_byPrime_592 rfl ?_
      refine aX_get (v := .int (nI (g))) dX11_byPrime_593 lfX11_237 s159 (congrArg Value.int (hg)) ?_
      refine nMul dX11_byPrime_596 ?_
      refine aX_bipush (v := nI 20) dX11_byPrime_597 (by decide) ?_
      refine nAdd dX11_byPrime_599 ?_
      refine aX_lload dX11_byPrime_600 rfl ?_
      refine nLast dX11_byPrime_602 s189 (by first | omega | exact Nat.lt_of_le_of_lt (Nat.mod_le _ _) (by omega)) (by decide) ?_
      refine aX_aload_n dX11_byPrime_603 rfl ?_
      refine aX_get dX11_byPrime_604 lfX11_107 s159 (f159_38 hR) ?_
      refine aX_bipush (v := nI 22) dX11_byPrime_607 (by decide) ?_
      refine aX_aload_n dX11_byPrime_609 rfl ?_
      refine aX_get (v := .int (nI (g))) dX11_byPrime_610 lfX11_237 s159 (congrArg Value.int (hg)) ?_
      refine nMul dX11_byPrime_613 ?_
      refine aX_bipush (v := nI 21) dX11_byPrime_614 (by decide) ?_
      refine nAdd dX11_byPrime_616 ?_
      refine aX_lload dX11_byPrime_617 rfl ?_
      refine nLast dX11_byPrime_619 s189 (by first | omega | exact Nat.lt_of_le_of_lt (Nat.mod_le _ _) (by omega)) (by decide) ?_
      refine aX_aload_n dX11_byPrime_620 rfl ?_
      refine aX_dup dX11_byPrime_621 rfl ?_
      refine aX_get (v := .int (nI (g))) dX11_byPrime_622 lfX11_237 s159 (congrArg Value.int (hg)) ?_
      refine aX_iconst (v := nI 1) dX11_byPrime_625 (by decide) ?_
      refine nAdd dX11_byPrime_626 ?_
      refine pI dX11_byPrime_627 lfX11_237 (fun _ _ _ hq => by cases hq; exact Or.inl rfl) s159 rfl ?_
      refine aX_iconst (v := nI 1) dX11_byPrime_630 (by decide) ?_
      exact rZ dX11_byPrime_631 rfl (Or.inr rfl) (⟨_, fun q j a1 a2 a3 => by rw [aU_n (by omega), aU_n (by omega)]; exact hk q j a1 a2 a3, rfl, rfl, by rw [aU_n (by omega), aU_n (by omega)]; exact h188, fun a ha => by
            obtain rfl : i = n := by omega
            by_cases e1 : a < i
            · obtain ⟨v, q1, q2, q3⟩ := hA a e1
              exact ⟨v, by rw [aU_n (by omega), aU_n (by omega)]; exact q1, q2, by unfold yU; rw [if_pos e1]; exact q3⟩
            · by_cases e2 : a = 20
              · subst e2
                exact ⟨d, by rw [aU_n (by omega), aU_s], hdp, by unfold yU; rw [if_neg e1, if_pos rfl]; exact cg_symm (eIn_done (eG_in he))⟩
              · have e3 : a = 21 := by omega
                subst e3
                exact ⟨ev9, by rw [aU_s], hevl, by unfold yU; rw [if_neg e1, if_neg (by decide)]; exact hev9⟩⟩)
    · have hin : i < n := c1
      have hwl := he.2.2.2.2 i n hin (by omega)
      have hm1 := mul_lt62 hwl hdp hp2
      refine aX_aload_n dX11_byPrime_516 rfl ?_
      refine aX_get dX11_byPrime_517 lfX11_110 s159 (f159_39 hR) ?_
      refine aX_bipush (v := nI 21) dX11_byPrime_520 (by decide) ?_
      refine aX_iload dX11_byPrime_522 rfl ?_
      refine nMul dX11_byPrime_524 ?_
      refine aX_bipush (v := nI 20) dX11_byPrime_525 (by decide) ?_
      refine nAdd dX11_byPrime_527 ?_
      refine nLald (v := lN (W i n)) dX11_byPrime_528 s190 (by first | omega | exact Nat.lt_of_le_of_lt (Nat.mod_le _ _) (by omega)) (by decide) ((h190 190 _ rfl).trans (by have y := hw i n hin (by omega); rw [cl_n] at y; exact y)) ?_
      refine aX_lload dX11_byPrime_529 rfl ?_
      refine kMul dX11_byPrime_531 ?_
      refine aX_lload_n dX11_byPrime_532 rfl ?_
      refine kRem dX11_byPrime_533 (by exact hm1) (by first | omega | exact Nat.lt_of_le_of_lt (Nat.mod_le _ _) (by omega)) (by first | omega | exact Nat.lt_of_le_of_lt (Nat.mod_le _ _) (by omega)) ?_
      refine aX_lstore (lv' := [(0, .ref 159), (1, .long (lN (p))), (3, .int (nI (n))), (4, .long (lN (d))), (6, .long (lN (ev9))), (8, .int (nI (i))), (9, .long (lN (((W i n) * d) % p)))]) dX11_byPrime_534 (by decide) rfl ?_
      refine aX_aload_n dX11_byPrime_536 rfl ?_
      refine aX_get dX11_byPrime_537 lfX11_107 s159 (f159_38 hR) ?_
      refine aX_bipush (v := nI 22) dX11_byPrime_540 (by decide) ?_
      refine aX_aload_n dX11_byPrime_542 rfl ?_
      refine aX_get (v := .int (nI (g))) dX11_byPrime_543 lfX11_237 s159 (congrArg Value.int (hg)) ?_
      refine nMul dX11_byPrime_546 ?_
      refine aX_iload dX11_byPrime_547 rfl ?_
      refine nAdd dX11_byPrime_549 ?_
      refine aX_lload dX11_byPrime_550 rfl ?_
      refine nLast dX11_byPrime_552 s189 (by first | omega | exact Nat.lt_of_le_of_lt (Nat.mod_le _ _) (by omega)) (by decide) ?_
      obtain ⟨L2, hL2⟩ : ∃ z, z = (aU L1 189 ((22 * g) + i) (lN (((W i n) * d) % p))) := ⟨_, rfl⟩
      rw [← hL2]
      have hvl : W i n * d % p < p := Nat.mod_lt _ (by omega)
      have hb0 := Int.emod_nonneg (S.2.1 i) (show ((p : Nat) : Int) ≠ 0 by omega)
      have hb1 := Int.emod_lt_of_pos (S.2.1 i) (show (0 : Int) < ((p : Nat) : Int) by omega)
      have hm2 : (S.2.1 i % p).toNat * (W i n * d % p) < 2 ^ 63 := mul_lt62 (p := p) (by omega) hvl hp2
      have hml : (S.2.1 i % p).toNat * (W i n * d % p) % p < p := Nat.mod_lt _ (by omega)
      have hvc : cg p ((W i n * d % p : Nat) : Int) (X i) := cg_trans (natmod_cg _ _) (cg_trans (cg_of_eq (by push_cast; rfl)) (eG_sol he hXn hin))
      refine aX_aload_n dX11_byPrime_553 rfl ?_
      refine aX_lload dX11_byPrime_554 rfl ?_
      refine aX_aload_n dX11_byPrime_556 rfl ?_
      refine aX_aload_n dX11_byPrime_557 rfl ?_
      refine aX_get dX11_byPrime_558 lfX11_89 s159 (f159_28 hR) ?_
      refine aX_iload dX11_byPrime_561 rfl ?_
      refine nLald (v := lZ (S.2.1 i)) dX11_byPrime_563 s183 (by first | omega | exact Nat.lt_of_le_of_lt (Nat.mod_le _ _) (by omega)) (by decide) (show L2 183 i = _ by rw [hL2, aU_n (by omega), hk 183 i (by omega) (by omega) (by omega)]; exact hS.2.1 i hin) ?_
      refine aX_lload_n dX11_byPrime_564 rfl ?_
      refine cVp (As := [.long (lZ (S.2.1 i)), .long (lN (p))]) (st := [.long (lN (ev9)), .ref 159]) (v := .long (lN ((S.2.1 i % p).toNat))) dX11_byPrime_565 kX11_byPrime_230 s159 aEok0 rfl rfl (Nat.le_of_ble_eq_true rfl) (m_mod (hbd.2.1 i hin).1 (hbd.2.1 i hin).2 (by omega) (by omega)) ?_
      refine aX_lload dX11_byPrime_568 rfl ?_
      refine kMul dX11_byPrime_570 ?_
      refine aX_lload_n dX11_byPrime_571 rfl ?_
      refine kRem dX11_byPrime_572 (by exact hm2) (by first | omega | exact Nat.lt_of_le_of_lt (Nat.mod_le _ _) (by omega)) (by first | omega | exact Nat.lt_of_le_of_lt (Nat.mod_le _ _) (by omega)) ?_
      refine ySub (a := ((ev9 : Nat) : Int)) (b := (((((S.2.1 i % p).toNat) * (((W i n) * d) % p)) % p : Nat) : Int)) dX11_byPrime_573 (kZ _) (kZ _) ?_
      refine aX_lload_n dX11_byPrime_574 rfl ?_
      refine cVp (As := [.long (lZ ((((ev9 : Nat) : Int)) - ((((((S.2.1 i % p).toNat) * (((W i n) * d) % p)) % p : Nat) : Int)))), .long (lN (p))]) (st := []) (v := .long (lN (((((ev9 : Nat) : Int) - (((S.2.1 i % p).toNat * (W i n * d % p) % p : Nat) : Int)) % ((p : Nat) : Int)).toNat))) dX11_byPrime_575 kX11_byPrime_230 s159 aEok0 rfl rfl (Nat.le_of_ble_eq_true rfl) (m_mod (by omega) (by omega) (by omega) (by omega)) ?_
      refine aX_lstore (lv' := [(0, .ref 159), (1, .long (lN (p))), (3, .int (nI (n))), (4, .long (lN (d))), (6, .long (lN (((((ev9 : Nat) : Int) - (((S.2.1 i % p).toNat * (W i n * d % p) % p : Nat) : Int)) % ((p : Nat) : Int)).toNat))), (8, .int (nI (i))), (9, .long (lN (((W i n) * d) % p)))]) dX11_byPrime_578 (by decide) rfl ?_
      refine nInc (lv' := [(0, .ref 159), (1, .long (lN (p))), (3, .int (nI (n))), (4, .long (lN (d))), (6, .long (lN (((((ev9 : Nat) : Int) - (((S.2.1 i % p).toNat * (W i n * d % p) % p : Nat) : Int)) % ((p : Nat) : Int)).toNat))), (8, .int (nI (i + 1))), (9, .long (lN (((W i n) * d) % p)))]) dX11_byPrime_580 rfl rfl (by decide) rfl ?_
      refine aX_goto (tgt := 510) dX11_byPrime_583 (by decide) ?_
      refine aX_lv (lv' := [(0, .ref 159), (1, .long (lN (p))), (3, .int (nI (n))), (4, .long (lN (d))), (6, .long (lN (((((ev9 : Nat) : Int) - (((S.2.1 i % p).toNat * (W i n * d % p) % p : Nat) : Int)) % ((p : Nat) : Int)).toNat))), (8, .int (nI (i + 1)))]) [0, 1, 2, 3, 4, 5] rfl ?_
      have e0 := Int.emod_nonneg (((ev9 : Nat) : Int) - (((S.2.1 i % p).toNat * (W i n * d % p) % p : Nat) : Int)) (show ((p : Nat) : Int) ≠ 0 by omega)
      have e1 := Int.emod_lt_of_pos (((ev9 : Nat) : Int) - (((S.2.1 i % p).toNat * (W i n * d % p) % p : Nat) : Int)) (show (0 : Int) < ((p : Nat) : Int) by omega)
      exact ih (n - (i + 1)) (by omega) (i + 1) (by omega) rfl L2 _ (fun a ha => by
        by_cases e : a = i
        · rw [e]; exact ⟨_, by rw [hL2, aU_s], hvl, hvc⟩
        · obtain ⟨v, a1, a2⟩ := hA a (by omega)
          exact ⟨v, by rw [hL2, aU_n (by omega)]; exact a1, a2⟩) (by omega) (by
        rw [Int.toNat_of_nonneg e0]
        refine cg_trans (cg_mod _ _) ?_
        have z0 : S.2.2 * dt n (lsA S lo) - sm (i + 1) (fun j => S.2.1 j * X j) = (S.2.2 * dt n (lsA S lo) - sm i (fun j => S.2.1 j * X j)) - S.2.1 i * X i := by show _ - (sm i _ + S.2.1 i * X i) = _; omega
        rw [z0]
        refine cg_sub hev9 (cg_trans (natmod_cg _ _) ?_)
        rw [Int.natCast_mul, Int.toNat_of_nonneg hb0]
        exact cg_mul (cg_mod _ _) hvc) (fun q j a1 a2 a3 => by rw [hL2, aU_n (by omega)]; exact hk q j a1 a2 a3) (by rw [hL2, aU_n (by omega)]; exact h188) (fun q j a1 => by rw [hL2, aU_n (by omega)]; exact h190 q j a1)
set_option maxHeartbeats 1000000 in
theorem m_byPrime {I : Nat → Nat → Int32} {L : Nat → Nat → Int64} {R : Nat → Nat → Option Nat} (hR : aRf R) {n : Nat} (hn : I 159 21 = nI n) (hn20 : n ≤ 20) {p : Nat} (hp : 2 ≤ p) (hp2 : p ≤ 2147483648) {S : jQt} {lo : Nat → Bool} {ev : Nat → Nat} (hS : rsRep L n S) (hlo : ∀ i, i < n → I 186 i = bI (lo i)) (hev : ∀ i, i < n → I 184 i = nI (ev i) ∧ ev i < 2147483648) (hbd : sBd S n) {X : Nat → Int} {g : Nat} (hg : I 159 36 = nI g) (hg14 : g < 14) (hP : isP p) (hXn : X n = - dt n (lsA S lo)) (hX : ∀ i, i < n → sm n (fun j => lsA S lo i j * X j) + lsB S lo ev i * X n = 0) : aM mX11_byPrime [.ref 159, .long (lN p)] (sh0, I, L, R) (fun ans h' => ∃ L', (∀ q j, q ≠ 190 → ¬ (q = 188 ∧ j = g) → ¬ (q = 189 ∧ 22 * g ≤ j ∧ j < 22 * g + 22) → L' q j = L q j) ∧ ((ans = some (.int (nI 1)) ∧ h' = (sh0, aU I 159 36 (nI (g + 1)), L', R) ∧ L' 188 g = lN p ∧ ∀ a, (a < n ∨ a = 20 ∨ a = 21) → ∃ v : Nat, L' 189 (22 * g + a) = lN v ∧ v < p ∧ cg p (v : Int) (yU n X (dt n (lsA S lo)) (S.2.2 * dt n (lsA S lo) - sm n (fun i => S.2.1 i * X i)) a)) ∨ (ans = some (.int (nI 0)) ∧ h' = (sh0, I, L', R) ∧ cg p (dt n (lsA S lo)) 0))) := by
  refine aM_of plX11_byPrime (Nat.le_of_ble_eq_true rfl) ?_
  refine aX_aload_n dX11_byPrime_0 rfl ?_
  refine aX_get (v := .int (nI (n))) dX11_byPrime_1 lfX11_160 s159 (congrArg Value.int (hn)) ?_
  refine aX_istore_n (lv' := [(0, .ref 159), (1, .long (lN (p))), (3, .int (nI (n)))]) dX11_byPrime_4 (by decide) rfl ?_
  refine aX_iconst (v := nI 0) dX11_byPrime_5 (by decide) ?_
  refine aX_istore (lv' := [(0, .ref 159), (1, .long (lN (p))), (3, .int (nI (n))), (4, .int (nI (0)))]) dX11_byPrime_6 (by decide) rfl ?_
  refine ml_pLo hR hn hn20 hp hp2 hS hlo hev hbd (fun L1 hw1 hl1 => ?_) _ 0 (by omega) rfl L (fun a b _ _ h => by omega) (fun q j g => rfl)
  refine aX_lconst (v := lN 1) dX11_byPrime_137 rfl ?_
  refine aX_lstore (lv' := [(0, .ref 159), (1, .long (lN (p))), (3, .int (nI (n))), (4, .long (lN (1)))]) dX11_byPrime_138 (by decide) rfl ?_
  refine aX_iconst (v := nI 0) dX11_byPrime_140 (by decide) ?_
  refine aX_istore (lv' := [(0, .ref 159), (1, .long (lN (p))), (3, .int (nI (n))), (4, .long (lN (1))), (6, .int (nI (0)))]) dX11_byPrime_141 (by decide) rfl ?_
  have hst : eIn p n (lsA S lo) X (ldR S lo ev p n) 1 0 := eIn_start (b := lsB S lo ev) hX (fun i j hi hj => by
    unfold ldR; rw [if_pos hj, Int.toNat_of_nonneg (Int.emod_nonneg _ (by omega))]; exact cg_mod _ _) (fun i hi => by
    unfold ldR; rw [if_neg (Nat.lt_irrefl n), Int.toNat_of_nonneg (Int.emod_nonneg _ (by omega))]; exact cg_mod _ _) (fun i j hi hj => by
    unfold ldR
    have a1 := Int.emod_lt_of_pos (lsA S lo i j) (show (0 : Int) < p by omega)
    have a2 := Int.emod_lt_of_pos (lsB S lo ev i) (show (0 : Int) < p by omega)
    split <;> omega)
  refine ml_pCo hR hn hn20 hp hp2 hP (L := L) (A := lsA S lo) (X := X) (fun L2 hz hl2 => ⟨L2, fun q j a1 _ _ => hl2 q j a1, Or.inr ⟨rfl, rfl, hz⟩⟩) (fun L2 W2 d2 hw2 he2 hdp2 hl2 => ?_) _ 0 (by omega) rfl L1 (ldR S lo ev p n) 1 hw1 (eG_start hst) (by omega) hl1
  refine aX_aload_n dX11_byPrime_481 rfl ?_
  refine aX_get dX11_byPrime_482 lfX11_104 s159 (f159_37 hR) ?_
  refine aX_aload_n dX11_byPrime_485 rfl ?_
  refine aX_get (v := .int (nI (g))) dX11_byPrime_486 lfX11_237 s159 (congrArg Value.int (hg)) ?_
  refine aX_lload_n dX11_byPrime_489 rfl ?_
  refine nLast dX11_byPrime_490 s188 (by first | omega | exact Nat.lt_of_le_of_lt (Nat.mod_le _ _) (by omega)) (by decide) ?_
  obtain ⟨L3, hL3⟩ : ∃ z, z = (aU L2 188 g (lN (p))) := ⟨_, rfl⟩
  rw [← hL3]
  have hk3 : ∀ q j, ¬ (q = 188 ∧ j = g) → L3 q j = L2 q j := fun q j a => by rw [hL3, aU_n a]
  have hc0 := Int.emod_nonneg S.2.2 (show ((p : Nat) : Int) ≠ 0 by omega)
  have hc1 := Int.emod_lt_of_pos S.2.2 (show (0 : Int) < ((p : Nat) : Int) by omega)
  have hmc : (S.2.2 % p).toNat * d2 < 2 ^ 63 := mul_lt62 (p := p) (by omega) hdp2 hp2
  refine aX_aload_n dX11_byPrime_491 rfl ?_
  refine aX_aload_n dX11_byPrime_492 rfl ?_
  refine aX_get (v := .long (lZ (S.2.2))) dX11_byPrime_493 lfX11_209 s159 (congrArg Value.long (show L3 159 33 = lZ S.2.2 by rw [hk3 159 33 (by omega), hl2 159 33 (by decide)]; exact hS.2.2)) ?_
  refine aX_lload_n dX11_byPrime_496 rfl ?_
  refine cVp (As := [.long (lZ (S.2.2)), .long (lN (p))]) (st := []) (v := .long (lN ((S.2.2 % p).toNat))) dX11_byPrime_497 kX11_byPrime_230 s159 aEok0 rfl rfl (Nat.le_of_ble_eq_true rfl) (m_mod hbd.2.2.1 hbd.2.2.2 (by omega) (by omega)) ?_
  refine aX_lload dX11_byPrime_500 rfl ?_
  refine kMul dX11_byPrime_502 ?_
  refine aX_lload_n dX11_byPrime_503 rfl ?_
  refine kRem dX11_byPrime_504 (by exact hmc) (by first | omega | exact Nat.lt_of_le_of_lt (Nat.mod_le _ _) (by omega)) (by first | omega | exact Nat.lt_of_le_of_lt (Nat.mod_le _ _) (by omega)) ?_
  refine aX_lstore (lv' := [(0, .ref 159), (1, .long (lN (p))), (3, .int (nI (n))), (4, .long (lN (d2))), (6, .long (lN ((((S.2.2 % p).toNat) * d2) % p)))]) dX11_byPrime_505 (by decide) rfl ?_
  refine aX_iconst (v := nI 0) dX11_byPrime_507 (by decide) ?_
  refine aX_istore (lv' := [(0, .ref 159), (1, .long (lN (p))), (3, .int (nI (n))), (4, .long (lN (d2))), (6, .long (lN ((((S.2.2 % p).toNat) * d2) % p))), (8, .int (nI (0)))]) dX11_byPrime_508 (by decide) rfl ?_
  refine aX_mono (ml_pEn hR hn hn20 hp hp2 hS hlo hev hbd hg hg14 hXn hdp2 he2 (L0 := L2) hw2 _ 0 (by omega) rfl L3 _ (fun a h => by omega) (Nat.mod_lt _ (by omega)) (by
    refine cg_trans (natmod_cg _ _) ?_
    rw [Int.natCast_mul, Int.toNat_of_nonneg hc0]
    show cg _ _ (S.2.2 * dt n (lsA S lo) - 0)
    rw [Int.sub_zero]
    exact cg_mul (cg_mod _ _) (cg_symm (eIn_done (eG_in he2)))) (fun q j a1 a2 a3 => (hk3 q j a2).trans (hl2 q j a1)) (by rw [hL3, aU_s]) (fun q j a1 => hk3 q j (by omega))) (fun ans5 h5 hq5 => ?_)
  obtain ⟨L5, a1, a2⟩ := hq5
  exact ⟨L5, a1, Or.inl a2⟩
