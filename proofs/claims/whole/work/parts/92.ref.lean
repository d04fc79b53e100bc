/-! THE REFERENCE BY A PRIME, AS A WHOLE -/
theorem mul_le62 {a b p : Nat} (ha : a ≤ p) (hb : b ≤ p) (hp : p ≤ 2147483648) : a * b < 2 ^ 63 := by
  have : a * b ≤ 2147483648 * 2147483648 := Nat.mul_le_mul (by omega) (by omega)
  omega
set_option maxHeartbeats 1000000 in
theorem ml_pRw {I : Nat → Nat → Int32} {L : Nat → Nat → Int64} {R : Nat → Nat → Option Nat} (hR : aRf R) {n : Nat} (hn : I 159 21 = nI n) (hn20 : n ≤ 20) {p : Nat} (hp : 2 ≤ p) (hp2 : p ≤ 2147483648) {A : Mx} {X : Nat → Int} {c d r f : Nat} (hc : c < n) (hr : r < n) {Q : Option Value → aH → Prop} (kk : ∀ (L2 : Nat → Nat → Int64) (W2 : Nx), wkR L2 W2 n → eG p n A X W2 d (c + 1) → lK190 L L2 → aX mX11_byPrime aE0 (sh0, I, L2, R) 475 [(0, .ref 159), (1, .long (lN p)), (3, .int (nI n)), (4, .long (lN d)), (6, .int (nI c)), (7, .int (nI r)), (8, .long (lN f)), (10, .int (nI n))] [] 0 0 Q) : ∀ (k9 b : Nat), b ≤ n → n - b = k9 → ∀ (L1 : Nat → Nat → Int64) (W : Nx), wkR L1 W n → eG p n A X W d c → W c c = 1 → (∀ q, q < b → q ≠ c → W q c = 0) → lK190 L L1 → aX mX11_byPrime aE0 (sh0, I, L1, R) 367 [(0, .ref 159), (1, .long (lN (p))), (3, .int (nI (n))), (4, .long (lN (d))), (6, .int (nI (c))), (7, .int (nI (r))), (8, .long (lN (f))), (10, .int (nI (b)))] [] 0 0 Q := by
  intro k9
  induction k9 using Nat.strongRecOn with
  | _ k9 ih =>
    intro b hi hk9 L1  W  hw he h1 h0 hl
    refine aX_iload dX11_byPrime_367 rfl ?_
    refine aX_iload_n dX11_byPrime_369 rfl ?_
    refine nGe (tgt := 475) dX11_byPrime_370 (by decide) (by first | omega | exact Nat.lt_of_le_of_lt (Nat.mod_le _ _) (by omega)) (by first | omega | exact Nat.lt_of_le_of_lt (Nat.mod_le _ _) (by omega)) (fun c1 => ?_) (fun c1 => ?_)
    · obtain rfl : b = n := by omega
      exact kk L1 W hw (eG_next he h1 (fun q a b => h0 q a b)) hl
    · have hbn : b < n := c1
      have hbl := he.2.2.2.2 b c hbn (by omega)
      refine aX_aload_n dX11_byPrime_373 rfl ?_
      refine aX_get dX11_byPrime_374 lfX11_110 s159 (f159_39 hR) ?_
      refine aX_bipush (v := nI 21) dX11_byPrime_377 (by decide) ?_
      refine aX_iload dX11_byPrime_379 rfl ?_
      refine nMul dX11_byPrime_381 ?_
      refine aX_iload dX11_byPrime_382 rfl ?_
      refine nAdd dX11_byPrime_384 ?_
      refine nLald (v := lN (W b c)) dX11_byPrime_385 s190 (by first | omega | exact Nat.lt_of_le_of_lt (Nat.mod_le _ _) (by omega)) (by decide) (by have y := hw b c hbn (by omega); rw [cl_lt hc] at y; exact y) ?_
      refine aX_lstore (lv' := [(0, .ref 159), (1, .long (lN (p))), (3, .int (nI (n))), (4, .long (lN (d))), (6, .int (nI (c))), (7, .int (nI (r))), (8, .long (lN (f))), (10, .int (nI (b))), (11, .long (lN (W b c)))]) dX11_byPrime_386 (by decide) rfl ?_
      refine aX_iload dX11_byPrime_388 rfl ?_
      refine aX_istore (lv' := [(0, .ref 159), (1, .long (lN (p))), (3, .int (nI (n))), (4, .long (lN (d))), (6, .int (nI (c))), (7, .int (nI (r))), (8, .long (lN (f))), (10, .int (nI (b))), (11, .long (lN (W b c))), (13, .int (nI (c)))]) dX11_byPrime_390 (by decide) rfl ?_
      by_cases hbc : b = c
      · refine aX_iload dX11_byPrime_392 rfl ?_
        refine aX_bipush (v := nI 21) dX11_byPrime_394 (by decide) ?_
        refine nGe (tgt := 469) dX11_byPrime_396 (by decide) (by first | omega | exact Nat.lt_of_le_of_lt (Nat.mod_le _ _) (by omega)) (by first | omega | exact Nat.lt_of_le_of_lt (Nat.mod_le _ _) (by omega)) (fun c1 => ?_) (fun c1 => ?_)
        · exact absurd c1 (by omega)
        · refine aX_iload dX11_byPrime_399 rfl ?_
          refine aX_iload dX11_byPrime_401 rfl ?_
          refine nEq (tgt := 469) dX11_byPrime_403 (by decide) (by first | omega | exact Nat.lt_of_le_of_lt (Nat.mod_le _ _) (by omega)) (by first | omega | exact Nat.lt_of_le_of_lt (Nat.mod_le _ _) (by omega)) (fun c2 => ?_) (fun c2 => ?_)
          · refine nInc (lv' := [(0, .ref 159), (1, .long (lN (p))), (3, .int (nI (n))), (4, .long (lN (d))), (6, .int (nI (c))), (7, .int (nI (r))), (8, .long (lN (f))), (10, .int (nI (b + 1))), (11, .long (lN (W b c))), (13, .int (nI (c)))]) dX11_byPrime_469 rfl rfl (by decide) rfl ?_
            refine aX_goto (tgt := 367) dX11_byPrime_472 (by decide) ?_
            refine aX_lv (lv' := [(0, .ref 159), (1, .long (lN (p))), (3, .int (nI (n))), (4, .long (lN (d))), (6, .int (nI (c))), (7, .int (nI (r))), (8, .long (lN (f))), (10, .int (nI (b + 1)))]) [0, 1, 2, 3, 4, 5, 6, 7] rfl ?_
            exact ih (n - (b + 1)) (by omega) (b + 1) (by omega) rfl L1 W hw he h1 (fun q a e => by
              by_cases eb : q = b
              · omega
              · exact h0 q (by omega) e) hl
          · exact absurd hbc c2
      · by_cases hfz : W b c = 0
        · refine aX_iload dX11_byPrime_392 rfl ?_
          refine aX_bipush (v := nI 21) dX11_byPrime_394 (by decide) ?_
          refine nGe (tgt := 469) dX11_byPrime_396 (by decide) (by first | omega | exact Nat.lt_of_le_of_lt (Nat.mod_le _ _) (by omega)) (by first | omega | exact Nat.lt_of_le_of_lt (Nat.mod_le _ _) (by omega)) (fun c1 => ?_) (fun c1 => ?_)
          · exact absurd c1 (by omega)
          · refine aX_iload dX11_byPrime_399 rfl ?_
            refine aX_iload dX11_byPrime_401 rfl ?_
            refine nEq (tgt := 469) dX11_byPrime_403 (by decide) (by first | omega | exact Nat.lt_of_le_of_lt (Nat.mod_le _ _) (by omega)) (by first | omega | exact Nat.lt_of_le_of_lt (Nat.mod_le _ _) (by omega)) (fun c2 => ?_) (fun c2 => ?_)
            · exact absurd c2 hbc
            · refine aX_lload dX11_byPrime_406 rfl ?_
              refine aX_lconst (v := lN 0) dX11_byPrime_408 rfl ?_
              refine aX_lcmp dX11_byPrime_409 ?_
              refine kIf_eq (tgt := 469) dX11_byPrime_410 (by decide) (by first | omega | exact Nat.lt_of_le_of_lt (Nat.mod_le _ _) (by omega)) (by first | omega | exact Nat.lt_of_le_of_lt (Nat.mod_le _ _) (by omega)) (fun c3 => ?_) (fun c3 => ?_)
              · refine nInc (lv' := [(0, .ref 159), (1, .long (lN (p))), (3, .int (nI (n))), (4, .long (lN (d))), (6, .int (nI (c))), (7, .int (nI (r))), (8, .long (lN (f))), (10, .int (nI (b + 1))), (11, .long (lN (W b c))), (13, .int (nI (c)))]) dX11_byPrime_469 rfl rfl (by decide) rfl ?_
                refine aX_goto (tgt := 367) dX11_byPrime_472 (by decide) ?_
                refine aX_lv (lv' := [(0, .ref 159), (1, .long (lN (p))), (3, .int (nI (n))), (4, .long (lN (d))), (6, .int (nI (c))), (7, .int (nI (r))), (8, .long (lN (f))), (10, .int (nI (b + 1)))]) [0, 1, 2, 3, 4, 5, 6, 7] rfl ?_
                exact ih (n - (b + 1)) (by omega) (b + 1) (by omega) rfl L1 W hw he h1 (fun q a e => by
                  by_cases eb : q = b
                  · rw [eb]; exact hfz
                  · exact h0 q (by omega) e) hl
              · exact absurd hfz (by omega)
        · refine ml_pSb hR hn hn20 hp hp2 he.2.2.2.2 hc hr hbn hbc hbl hfz (fun L2 hw2 hl2 => ?_) _ c (by omega) rfl L1 (Nat.le_refl _) (fun i j hi hj => by
            rw [hw i j hi hj, if_neg (fun z => ?_)]
            by_cases ej : j = n
            · rw [ej, cl_n] at z; omega
            · rw [cl_lt (show j < n by omega)] at z; omega) (fun q j g => rfl)
          have hsub := eG_sub he hp hc hbn hbc h1
          refine nInc (lv' := [(0, .ref 159), (1, .long (lN (p))), (3, .int (nI (n))), (4, .long (lN (d))), (6, .int (nI (c))), (7, .int (nI (r))), (8, .long (lN (f))), (10, .int (nI (b + 1))), (11, .long (lN (W b c))), (13, .int (nI (21)))]) dX11_byPrime_469 rfl rfl (by decide) rfl ?_
          refine aX_goto (tgt := 367) dX11_byPrime_472 (by decide) ?_
          refine aX_lv (lv' := [(0, .ref 159), (1, .long (lN (p))), (3, .int (nI (n))), (4, .long (lN (d))), (6, .int (nI (c))), (7, .int (nI (r))), (8, .long (lN (f))), (10, .int (nI (b + 1)))]) [0, 1, 2, 3, 4, 5, 6, 7] rfl ?_
          exact ih (n - (b + 1)) (by omega) (b + 1) (by omega) rfl L2 (wSub W p c b (n + 1)) hw2 hsub.1 (by unfold wSub; rw [if_neg (by omega)]; exact h1) (fun q a e => by
            by_cases eb : q = b
            · rw [eb]; exact hsub.2
            · unfold wSub; rw [if_neg (by omega)]; exact h0 q (by omega) e) (fun q j g => (hl2 q j g).trans (hl q j g))
set_option maxHeartbeats 1000000 in
theorem ml_pCo {I : Nat → Nat → Int32} {L : Nat → Nat → Int64} {R : Nat → Nat → Option Nat} (hR : aRf R) {n : Nat} (hn : I 159 21 = nI n) (hn20 : n ≤ 20) {p : Nat} (hp : 2 ≤ p) (hp2 : p ≤ 2147483648) (hP : isP p) {A : Mx} {X : Nat → Int} {Q : Option Value → aH → Prop} (kf : ∀ L2 : Nat → Nat → Int64, cg p (dt n A) 0 → lK190 L L2 → Q (some (.int (nI 0))) (sh0, I, L2, R)) (kk : ∀ (L2 : Nat → Nat → Int64) (W2 : Nx) (d2 : Nat), wkR L2 W2 n → eG p n A X W2 d2 n → d2 < p → lK190 L L2 → aX mX11_byPrime aE0 (sh0, I, L2, R) 481 [(0, .ref 159), (1, .long (lN p)), (3, .int (nI n)), (4, .long (lN d2)), (6, .int (nI n))] [] 0 0 Q) : ∀ (k9 c : Nat), c ≤ n → n - c = k9 → ∀ (L1 : Nat → Nat → Int64) (W : Nx) (d : Nat), wkR L1 W n → eG p n A X W d c → d < p → lK190 L L1 → aX mX11_byPrime aE0 (sh0, I, L1, R) 143 [(0, .ref 159), (1, .long (lN (p))), (3, .int (nI (n))), (4, .long (lN (d))), (6, .int (nI (c)))] [] 0 0 Q := by
  intro k9
  induction k9 using Nat.strongRecOn with
  | _ k9 ih =>
    intro c hi hk9 L1  W  d  hw he hdp hl
    refine aX_iload dX11_byPrime_143 rfl ?_
    refine aX_iload_n dX11_byPrime_145 rfl ?_
    refine nGe (tgt := 481) dX11_byPrime_146 (by decide) (by first | omega | exact Nat.lt_of_le_of_lt (Nat.mod_le _ _) (by omega)) (by first | omega | exact Nat.lt_of_le_of_lt (Nat.mod_le _ _) (by omega)) (fun c1 => ?_) (fun c1 => ?_)
    · obtain rfl : c = n := by omega
      exact kk L1 W d hw he hdp hl
    · have hcn : c < n := c1
      refine aX_iload dX11_byPrime_149 rfl ?_
      refine aX_istore (lv' := [(0, .ref 159), (1, .long (lN (p))), (3, .int (nI (n))), (4, .long (lN (d))), (6, .int (nI (c))), (7, .int (nI (c)))]) dX11_byPrime_151 (by decide) rfl ?_
      refine ml_pFr hR hn hn20 hp hp2 hw he.2.2.2.2 hcn (fun hz => kf L1 (eIn_fail (eG_in he) hcn hz) hl) (fun r hr1 hr2 hr3 => ?_) _ c (by omega) rfl (Nat.le_refl _) (fun q h1 h2 => by omega)
      by_cases erc : r = c
      · refine aX_iload dX11_byPrime_191 rfl ?_
        refine aX_iload dX11_byPrime_193 rfl ?_
        refine nEq (tgt := 276) dX11_byPrime_195 (by decide) (by first | omega | exact Nat.lt_of_le_of_lt (Nat.mod_le _ _) (by omega)) (by first | omega | exact Nat.lt_of_le_of_lt (Nat.mod_le _ _) (by omega)) (fun c1 => ?_) (fun c1 => ?_)
        · have hwne : W c c ≠ 0 := by rw [erc] at hr3; exact hr3
          have hwcc := he.2.2.2.2 c c hcn (by omega)
          have hpm := mul_le62 (p := p) (a := d) (b := W c c) (by omega) (by omega) hp2
          have hnd : ¬ p ∣ W c c := fun z => by have := Nat.le_of_dvd (Nat.pos_of_ne_zero hwne) z; omega
          have hfi := fermat_inv hP hnd
          have hscl := eG_scale he hp hcn hfi
          refine aX_lload dX11_byPrime_276 rfl ?_
          refine aX_aload_n dX11_byPrime_278 rfl ?_
          refine aX_get dX11_byPrime_279 lfX11_110 s159 (f159_39 hR) ?_
          refine aX_bipush (v := nI 21) dX11_byPrime_282 (by decide) ?_
          refine aX_iload dX11_byPrime_284 rfl ?_
          refine nMul dX11_byPrime_286 ?_
          refine aX_iload dX11_byPrime_287 rfl ?_
          refine nAdd dX11_byPrime_289 ?_
          refine nLald (v := lN (W c c)) dX11_byPrime_290 s190 (by first | omega | exact Nat.lt_of_le_of_lt (Nat.mod_le _ _) (by omega)) (by decide) (by have y := hw c c hcn (by omega); rw [cl_lt hcn] at y; exact y) ?_
          refine kMul dX11_byPrime_291 ?_
          refine aX_lload_n dX11_byPrime_292 rfl ?_
          refine kRem dX11_byPrime_293 (by exact hpm) (by first | omega | exact Nat.lt_of_le_of_lt (Nat.mod_le _ _) (by omega)) (by first | omega | exact Nat.lt_of_le_of_lt (Nat.mod_le _ _) (by omega)) ?_
          refine aX_lstore (lv' := [(0, .ref 159), (1, .long (lN (p))), (3, .int (nI (n))), (4, .long (lN ((d * (W c c)) % p))), (6, .int (nI (c))), (7, .int (nI (r)))]) dX11_byPrime_294 (by decide) rfl ?_
          refine aX_aload_n dX11_byPrime_296 rfl ?_
          refine aX_aload_n dX11_byPrime_297 rfl ?_
          refine aX_get dX11_byPrime_298 lfX11_110 s159 (f159_39 hR) ?_
          refine aX_bipush (v := nI 21) dX11_byPrime_301 (by decide) ?_
          refine aX_iload dX11_byPrime_303 rfl ?_
          refine nMul dX11_byPrime_305 ?_
          refine aX_iload dX11_byPrime_306 rfl ?_
          refine nAdd dX11_byPrime_308 ?_
          refine nLald (v := lN (W c c)) dX11_byPrime_309 s190 (by first | omega | exact Nat.lt_of_le_of_lt (Nat.mod_le _ _) (by omega)) (by decide) (by have y := hw c c hcn (by omega); rw [cl_lt hcn] at y; exact y) ?_
          refine aX_lload_n dX11_byPrime_310 rfl ?_
          refine cVp (As := [.long (lN (W c c)), .long (lN (p))]) (st := []) (v := .long (lN (W c c ^ (p - 2) % p))) dX11_byPrime_311 kX11_byPrime_234 s159 aEok0 rfl rfl (Nat.le_of_ble_eq_true rfl) (m_inverse hp hp2 hwcc) ?_
          refine aX_lstore (lv' := [(0, .ref 159), (1, .long (lN (p))), (3, .int (nI (n))), (4, .long (lN ((d * (W c c)) % p))), (6, .int (nI (c))), (7, .int (nI (r))), (8, .long (lN (W c c ^ (p - 2) % p)))]) dX11_byPrime_314 (by decide) rfl ?_
          refine aX_iload dX11_byPrime_316 rfl ?_
          refine aX_istore (lv' := [(0, .ref 159), (1, .long (lN (p))), (3, .int (nI (n))), (4, .long (lN ((d * (W c c)) % p))), (6, .int (nI (c))), (7, .int (nI (r))), (8, .long (lN (W c c ^ (p - 2) % p))), (10, .int (nI (c)))]) dX11_byPrime_318 (by decide) rfl ?_
          refine ml_pSc hR hn hn20 hp hp2 he.2.2.2.2 hcn hr2 (f := W c c ^ (p - 2) % p) (Nat.mod_lt _ (by omega)) (fun L5 hw5 hl5 => ?_) _ c (by omega) rfl L1 (Nat.le_refl _) (fun i j hi hj => by
            rw [hw i j hi hj, if_neg (fun z => ?_)]
            by_cases ej : j = n
            · rw [ej, cl_n] at z; omega
            · rw [cl_lt (show j < n by omega)] at z; omega) (fun q j g => rfl)
          refine aX_iconst (v := nI 0) dX11_byPrime_364 (by decide) ?_
          refine aX_istore (lv' := [(0, .ref 159), (1, .long (lN (p))), (3, .int (nI (n))), (4, .long (lN (d * W c c % p))), (6, .int (nI (c))), (7, .int (nI (r))), (8, .long (lN (W c c ^ (p - 2) % p))), (10, .int (nI (0)))]) dX11_byPrime_365 (by decide) rfl ?_
          refine ml_pRw (L := L5) hR hn hn20 hp hp2 (A := A) (X := X) hcn hr2 (fun L6 W6 hw6 he6 hl6 => ?_) _ 0 (by omega) rfl L5 _ hw5 hscl.1 hscl.2 (fun q h => by omega) (fun q j g => rfl)
          refine nInc (lv' := [(0, .ref 159), (1, .long (lN (p))), (3, .int (nI (n))), (4, .long (lN (d * W c c % p))), (6, .int (nI (c + 1))), (7, .int (nI (r))), (8, .long (lN (W c c ^ (p - 2) % p))), (10, .int (nI (n)))]) dX11_byPrime_475 rfl rfl (by decide) rfl ?_
          refine aX_goto (tgt := 143) dX11_byPrime_478 (by decide) ?_
          refine aX_lv (lv' := [(0, .ref 159), (1, .long (lN (p))), (3, .int (nI (n))), (4, .long (lN (d * W c c % p))), (6, .int (nI (c + 1)))]) [0, 1, 2, 3, 4] rfl ?_
          exact ih (n - (c + 1)) (by omega) (c + 1) (by omega) rfl L6 W6 _ hw6 he6 (Nat.mod_lt _ (by omega)) (fun q j g => (hl6 q j g).trans ((hl5 q j g).trans (hl q j g)))
        · exact absurd erc c1
      · refine aX_iload dX11_byPrime_191 rfl ?_
        refine aX_iload dX11_byPrime_193 rfl ?_
        refine nEq (tgt := 276) dX11_byPrime_195 (by decide) (by first | omega | exact Nat.lt_of_le_of_lt (Nat.mod_le _ _) (by omega)) (by first | omega | exact Nat.lt_of_le_of_lt (Nat.mod_le _ _) (by omega)) (fun c1 => ?_) (fun c1 => ?_)
        · exact absurd c1 erc
        · refine aX_lload_n dX11_byPrime_198 rfl ?_
          refine aX_lload dX11_byPrime_199 rfl ?_
          refine kSub dX11_byPrime_201 (by first | omega | exact Nat.lt_of_le_of_lt (Nat.mod_le _ _) (by omega)) ?_
          refine aX_lstore (lv' := [(0, .ref 159), (1, .long (lN (p))), (3, .int (nI (n))), (4, .long (lN (p - d))), (6, .int (nI (c))), (7, .int (nI (r)))]) dX11_byPrime_202 (by decide) rfl ?_
          refine aX_iconst (v := nI 0) dX11_byPrime_204 (by decide) ?_
          refine aX_istore (lv' := [(0, .ref 159), (1, .long (lN (p))), (3, .int (nI (n))), (4, .long (lN (p - d))), (6, .int (nI (c))), (7, .int (nI (r))), (8, .int (nI (0)))]) dX11_byPrime_205 (by decide) rfl ?_
          refine ml_pSw (L := L1) hR hn hn20 hp hp2 (W := W) hcn hr2 (by omega) (fun L4 hw4 hl4 => ?_) _ 0 (by omega) rfl L1 (fun i j hi hj => by rw [hw i j hi hj, if_neg (by omega)]) (fun q j g => rfl)
          have he4 := eG_swap he (show c < r by omega) hr2 (by omega)
          have hwne : wSwap W c r c c ≠ 0 := by unfold wSwap; rw [if_pos rfl]; exact hr3
          have hl9 : lK190 L L4 := fun q j g => (hl4 q j g).trans (hl q j g)
          have hwcc := he4.2.2.2.2 c c hcn (by omega)
          have hpm := mul_le62 (p := p) (a := p - d) (b := wSwap W c r c c) (by omega) (by omega) hp2
          have hnd : ¬ p ∣ wSwap W c r c c := fun z => by have := Nat.le_of_dvd (Nat.pos_of_ne_zero hwne) z; omega
          have hfi := fermat_inv hP hnd
          have hscl := eG_scale he4 hp hcn hfi
          refine aX_lload dX11_byPrime_276 rfl ?_
          refine aX_aload_n dX11_byPrime_278 rfl ?_
          refine aX_get dX11_byPrime_279 lfX11_110 s159 (f159_39 hR) ?_
          refine aX_bipush (v := nI 21) dX11_byPrime_282 (by decide) ?_
          refine aX_iload dX11_byPrime_284 rfl ?_
          refine nMul dX11_byPrime_286 ?_
          refine aX_iload dX11_byPrime_287 rfl ?_
          refine nAdd dX11_byPrime_289 ?_
          refine nLald (v := lN (wSwap W c r c c)) dX11_byPrime_290 s190 (by first | omega | exact Nat.lt_of_le_of_lt (Nat.mod_le _ _) (by omega)) (by decide) (by have y := hw4 c c hcn (by omega); rw [cl_lt hcn] at y; exact y) ?_
          refine kMul dX11_byPrime_291 ?_
          refine aX_lload_n dX11_byPrime_292 rfl ?_
          refine kRem dX11_byPrime_293 (by exact hpm) (by first | omega | exact Nat.lt_of_le_of_lt (Nat.mod_le _ _) (by omega)) (by first | omega | exact Nat.lt_of_le_of_lt (Nat.mod_le _ _) (by omega)) ?_
          refine aX_lstore (lv' := [(0, .ref 159), (1, .long (lN (p))), (3, .int (nI (n))), (4, .long (lN (((p - d) * (wSwap W c r c c)) % p))), (6, .int (nI (c))), (7, .int (nI (r)))]) dX11_byPrime_294 (by decide) rfl ?_
          refine aX_aload_n dX11_byPrime_296 rfl ?_
          refine aX_aload_n dX11_byPrime_297 rfl ?_
          refine aX_get dX11_byPrime_298 lfX11_110 s159 (f159_39 hR) ?_
          refine aX_bipush (v := nI 21) dX11_byPrime_301 (by decide) ?_
          refine aX_iload dX11_byPrime_303 rfl ?_
          refine nMul dX11_byPrime_305 ?_
          refine aX_iload dX11_byPrime_306 rfl ?_
          refine nAdd dX11_byPrime_308 ?_
          refine nLald (v := lN (wSwap W c r c c)) dX11_byPrime_309 s190 (by first | omega | exact Nat.lt_of_le_of_lt (Nat.mod_le _ _) (by omega)) (by decide) (by have y := hw4 c c hcn (by omega); rw [cl_lt hcn] at y; exact y) ?_
          refine aX_lload_n dX11_byPrime_310 rfl ?_
          refine cVp (As := [.long (lN (wSwap W c r c c)), .long (lN (p))]) (st := []) (v := .long (lN (wSwap W c r c c ^ (p - 2) % p))) dX11_byPrime_311 kX11_byPrime_234 s159 aEok0 rfl rfl (Nat.le_of_ble_eq_true rfl) (m_inverse hp hp2 hwcc) ?_
          refine aX_lstore (lv' := [(0, .ref 159), (1, .long (lN (p))), (3, .int (nI (n))), (4, .long (lN (((p - d) * (wSwap W c r c c)) % p))), (6, .int (nI (c))), (7, .int (nI (r))), (8, .long (lN (wSwap W c r c c ^ (p - 2) % p)))]) dX11_byPrime_314 (by decide) rfl ?_
          refine aX_iload dX11_byPrime_316 rfl ?_
          refine aX_istore (lv' := [(0, .ref 159), (1, .long (lN (p))), (3, .int (nI (n))), (4, .long (lN (((p - d) * (wSwap W c r c c)) % p))), (6, .int (nI (c))), (7, .int (nI (r))), (8, .long (lN (wSwap W c r c c ^ (p - 2) % p))), (10, .int (nI (c)))]) dX11_byPrime_318 (by decide) rfl ?_
          refine ml_pSc hR hn hn20 hp hp2 he4.2.2.2.2 hcn hr2 (f := wSwap W c r c c ^ (p - 2) % p) (Nat.mod_lt _ (by omega)) (fun L5 hw5 hl5 => ?_) _ c (by omega) rfl L4 (Nat.le_refl _) (fun i j hi hj => by
            rw [hw4 i j hi hj, if_neg (fun z => ?_)]
            by_cases ej : j = n
            · rw [ej, cl_n] at z; omega
            · rw [cl_lt (show j < n by omega)] at z; omega) (fun q j g => rfl)
          refine aX_iconst (v := nI 0) dX11_byPrime_364 (by decide) ?_
          refine aX_istore (lv' := [(0, .ref 159), (1, .long (lN (p))), (3, .int (nI (n))), (4, .long (lN ((p - d) * wSwap W c r c c % p))), (6, .int (nI (c))), (7, .int (nI (r))), (8, .long (lN (wSwap W c r c c ^ (p - 2) % p))), (10, .int (nI (0)))]) dX11_byPrime_365 (by decide) rfl ?_
          refine ml_pRw (L := L5) hR hn hn20 hp hp2 (A := A) (X := X) hcn hr2 (fun L6 W6 hw6 he6 hl6 => ?_) _ 0 (by omega) rfl L5 _ hw5 hscl.1 hscl.2 (fun q h => by omega) (fun q j g => rfl)
          refine nInc (lv' := [(0, .ref 159), (1, .long (lN (p))), (3, .int (nI (n))), (4, .long (lN ((p - d) * wSwap W c r c c % p))), (6, .int (nI (c + 1))), (7, .int (nI (r))), (8, .long (lN (wSwap W c r c c ^ (p - 2) % p))), (10, .int (nI (n)))]) dX11_byPrime_475 rfl rfl (by decide) rfl ?_
          refine aX_goto (tgt := 143) dX11_byPrime_478 (by decide) ?_
          refine aX_lv (lv' := [(0, .ref 159), (1, .long (lN (p))), (3, .int (nI (n))), (4, .long (lN ((p - d) * wSwap W c r c c % p))), (6, .int (nI (c + 1)))]) [0, 1, 2, 3, 4] rfl ?_
          exact ih (n - (c + 1)) (by omega) (c + 1) (by omega) rfl L6 W6 _ hw6 he6 (Nat.mod_lt _ (by omega)) (fun q j g => (hl6 q j g).trans ((hl5 q j g).trans (hl9 q j g)))
