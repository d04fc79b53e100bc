/-! THE REFERENCE SOLVES BY A PRIME -/
def eG (p n : Nat) (A : Mx) (X : Nat → Int) (W : Nx) (d c : Nat) : Prop := kr p n (zx W) X ∧ cg p (dt n A) ((d : Int) * dt n (zx W)) ∧ (∀ k, k < c → W k k = 1) ∧ (∀ k r, k < c → r < n → r ≠ k → W r k = 0) ∧ (∀ i j, i < n → j < n + 1 → W i j < p)
theorem eG_in {p n : Nat} {A : Mx} {X : Nat → Int} {W : Nx} {d c : Nat} (h : eG p n A X W d c) : eIn p n A X W d c := ⟨h.1, h.2.1, h.2.2.1, fun k r a b e => h.2.2.2.1 k r a e (by omega), h.2.2.2.2⟩
theorem eG_swap {p n : Nat} {A : Mx} {X : Nat → Int} {W : Nx} {d c r : Nat} (h : eG p n A X W d c) (hc : c < r) (hr : r < n) (hd : d ≤ p) : eG p n A X (wSwap W c r) (p - d) c := by
  have g := eIn_swap (eG_in h) hc hr hd
  refine ⟨g.1, g.2.1, g.2.2.1, fun k q hk hn hq => ?_, g.2.2.2.2⟩
  unfold wSwap
  by_cases e : q = c
  · rw [if_pos e]; exact h.2.2.2.1 k r hk hr (by omega)
  · rw [if_neg e]
    by_cases e' : q = r
    · rw [if_pos e']; exact h.2.2.2.1 k c hk (by omega) (by omega)
    · rw [if_neg e']; exact h.2.2.2.1 k q hk hn hq
theorem eG_scale {p n : Nat} {A : Mx} {X : Nat → Int} {W : Nx} {d c f : Nat} (h : eG p n A X W d c) (hp : 2 ≤ p) (hc : c < n) (hf : W c c * f % p = 1) : eG p n A X (wScale W p c f (n + 1)) (d * W c c % p) c ∧ wScale W p c f (n + 1) c c = 1 := by
  have g := eIn_scale (eG_in h) hp hc hf
  refine ⟨⟨g.1.1, g.1.2.1, g.1.2.2.1, fun k q hk hn hq => ?_, g.1.2.2.2.2⟩, g.2⟩
  unfold wScale
  rw [if_neg (by omega)]; exact h.2.2.2.1 k q hk hn hq
theorem eG_sub {p n : Nat} {A : Mx} {X : Nat → Int} {W : Nx} {d c b : Nat} (h : eG p n A X W d c) (hp : 2 ≤ p) (hc : c < n) (hb : b < n) (hbc : b ≠ c) (h1 : W c c = 1) : eG p n A X (wSub W p c b (n + 1)) d c ∧ wSub W p c b (n + 1) b c = 0 := by
  have hlt := h.2.2.2.2 b c hb (by omega)
  have hrow : ∀ j, j < n + 1 → cg p (zx (wSub W p c b (n + 1)) b j) (1 * zx W b j + (-(W b c : Int)) * zx W c j) := by
    intro j hj
    unfold zx wSub
    by_cases e : c ≤ j
    · rw [if_pos ⟨rfl, e, hj⟩]
      refine cg_trans (natmod_cg _ _) ⟨W c j, ?_⟩
      have hp' : ((p - W b c : Nat) : Int) = (p : Int) - W b c := by omega
      push_cast [hp']; grind
    · rw [if_neg (by omega), h.2.2.2.1 j c (by omega) hc (by omega)]
      exact cg_of_eq (by simp)
  have hoth : ∀ i j, i < n → i ≠ b → cg p (zx (wSub W p c b (n + 1)) i j) (zx W i j) := by
    intro i j hi hn
    unfold zx wSub
    rw [if_neg (by omega)]; exact cg_refl _ _
  refine ⟨⟨?_, ?_, fun k hk => ?_, fun k q hk hn hq => ?_, fun i j hi hj => ?_⟩, ?_⟩
  · exact kr_comb (l := c) h.1 hb hc (fun i j hi hn _ => hoth i j hi hn) (fun j hj => hrow j hj)
  · have hd := dt_comb (p := p) (n := n) (W := zx W) hb hc hbc (fun i j hi hn _ => hoth i j hi hn) (fun j hj => hrow j (by omega))
    rw [Int.one_mul] at hd
    exact cg_trans h.2.1 (cg_mul (cg_refl _ _) (cg_symm hd))
  · unfold wSub; rw [if_neg (by omega)]; exact h.2.2.1 k hk
  · unfold wSub; rw [if_neg (by omega)]; exact h.2.2.2.1 k q hk hn hq
  · unfold wSub
    split
    · exact Nat.mod_lt _ (by omega)
    · exact h.2.2.2.2 i j hi hj
  · unfold wSub
    rw [if_pos ⟨rfl, Nat.le_refl _, by omega⟩, h1, Nat.mul_one, Nat.add_sub_cancel' (by omega), Nat.mod_self]
theorem eG_next {p n : Nat} {A : Mx} {X : Nat → Int} {W : Nx} {d c : Nat} (h : eG p n A X W d c) (h1 : W c c = 1) (h0 : ∀ r, r < n → r ≠ c → W r c = 0) : eG p n A X W d (c + 1) :=
  ⟨h.1, h.2.1, fun k hk => by
    by_cases e : k = c
    · subst e; exact h1
    · exact h.2.2.1 k (by omega), fun k r hk hn hr => by
    by_cases e : k = c
    · subst e; exact h0 r hn hr
    · exact h.2.2.2.1 k r (by omega) hn hr, h.2.2.2.2⟩
theorem eG_start {p n : Nat} {A : Mx} {X : Nat → Int} {W : Nx} {d : Nat} (h : eIn p n A X W d 0) : eG p n A X W d 0 := ⟨h.1, h.2.1, h.2.2.1, fun k r a => absurd a (by omega), h.2.2.2.2⟩
theorem eG_sol {p n : Nat} {A : Mx} {X : Nat → Int} {W : Nx} {d : Nat} (h : eG p n A X W d n) (hX : X n = - dt n A) {i : Nat} (hi : i < n) : cg p ((W i n : Int) * d) (X i) := by
  have h1 := h.1 i hi
  have e : sm (n + 1) (fun j => zx W i j * X j) = X i + (W i n : Int) * X n := by
    show sm n (fun j => zx W i j * X j) + zx W i n * X n = _
    rw [sm_one hi (fun j hj hne => by
      show ((W i j : Nat) : Int) * X j = 0
      rw [h.2.2.2.1 j i hj hi (Ne.symm hne)]; simp)]
    show ((W i i : Nat) : Int) * X i + _ = _
    rw [h.2.2.1 i hi]
    show 1 * X i + _ = _
    rw [Int.one_mul]
    rfl
  rw [e, hX] at h1
  have h2 := eIn_done (eG_in h)
  have h3 := cg_mul (cg_refl (p : Int) (W i n : Int)) h2
  refine cg_trans (cg_symm h3) ?_
  have h4 := cg_add h1 (cg_refl (p : Int) ((W i n : Int) * dt n A))
  refine cg_symm (cg_trans (cg_of_eq ?_) (cg_trans h4 (cg_of_eq (by omega))))
  rw [Int.mul_neg]; omega
theorem sub_val {a b f p : Nat} (hp : 0 < p) (hf : f < p) : (((a : Int) - ((f * b % p : Nat) : Int)) % (p : Int)).toNat = (a + (p - f) * b) % p := by
  have h0 := Int.emod_nonneg ((a : Int) - ((f * b % p : Nat) : Int)) (show (p : Int) ≠ 0 by omega)
  have h1 : cg p (((a : Int) - ((f * b % p : Nat) : Int)) % p) (((a + (p - f) * b) % p : Nat) : Int) := by
    refine cg_trans (cg_mod _ _) (cg_symm (cg_trans (natmod_cg _ _) ?_))
    refine cg_trans ?_ (cg_sub (cg_refl _ _) (cg_symm (natmod_cg _ _)))
    have hp' : ((p - f : Nat) : Int) = (p : Int) - f := by omega
    exact ⟨b, by push_cast [hp']; grind⟩
  have h2 := Int.emod_lt_of_pos ((a : Int) - ((f * b % p : Nat) : Int)) (show (0 : Int) < p by omega)
  have h3 : (a + (p - f) * b) % p < p := Nat.mod_lt _ hp
  have := cg_small h1 (by omega) (by omega)
  omega
def cl (n j : Nat) : Nat := if j = n then 20 else j
theorem cl_n (n : Nat) : cl n n = 20 := if_pos rfl
theorem cl_lt {n j : Nat} (h : j < n) : cl n j = j := if_neg (by omega)
theorem cl_21 {n j : Nat} (hn : n ≤ 20) (h : j < n + 1) : cl n j < 21 := by unfold cl; split <;> omega
theorem cl_inj {n j k : Nat} (hn : n ≤ 20) (hj : j < n + 1) (hk : k < n + 1) (h : cl n j = cl n k) : j = k := by
  unfold cl at h
  split at h <;> split at h <;> omega
theorem cl_gb {n j a : Nat} (hj : j < n + 1) (h1 : n ≤ a) (h2 : a < 20) : cl n j ≠ a := by unfold cl; split <;> omega
theorem ix_ne {n i j i' a : Nat} (hn : n ≤ 20) (hj : j < n + 1) (ha : a < 21) (h : ¬ (i = i' ∧ cl n j = a)) : ¬ 21 * i + cl n j = 21 * i' + a := by
  have := cl_21 hn hj
  omega
def wkR (L : Nat → Nat → Int64) (W : Nx) (n : Nat) : Prop := ∀ i j, i < n → j < n + 1 → L 190 (21 * i + cl n j) = lN (W i j)
def lK190 (L L' : Nat → Nat → Int64) : Prop := ∀ q j, q ≠ 190 → L' q j = L q j
theorem lK190_set {L L1 : Nat → Nat → Int64} {j : Nat} {v : Int64} (h : lK190 L L1) : lK190 L (aU L1 190 j v) := fun q i g => by rw [aU_n (by omega)]; exact h q i g
theorem m_modJ {h : aH} {x : Int64} {p : Nat} (hp : 0 < p) (hp2 : p < 2 ^ 63) : aMp mX11_mod [.ref 159, .long x, .long (lN p)] h (.long (lN (x.toInt % p).toNat)) := by
  have h1 := Int64.le_toInt x
  have h2 := Int64.toInt_lt x
  have := m_mod (h := h) (v := x.toInt) (p := p) (by omega) (by omega) hp hp2
  rw [← lZ_of x] at this
  exact this
def lsA (S : jQt) (lo : Nat → Bool) : Mx := fun i j => if lo i then (if i = j then 1 else 0) else S.1 i j
def lsB (S : jQt) (lo : Nat → Bool) (ev : Nat → Nat) : Nat → Int := fun i => if lo i then (ev i : Int) else S.2.1 i
def ldR (S : jQt) (lo : Nat → Bool) (ev : Nat → Nat) (p n : Nat) : Nx := fun i j => if j < n then (lsA S lo i j % p).toNat else (lsB S lo ev i % p).toNat
def ldQ (S : jQt) (lo : Nat → Bool) (ev : Nat → Nat) (p n i0 j0 : Nat) (L : Nat → Nat → Int64) : Prop := ∀ i j, i < n → j < n + 1 → (i < i0 ∨ (i = i0 ∧ j < j0)) → L 190 (21 * i + cl n j) = lN (ldR S lo ev p n i j)
theorem ldQ_set {S : jQt} {lo : Nat → Bool} {ev : Nat → Nat} {p n i0 j0 : Nat} {L : Nat → Nat → Int64} (hn : n ≤ 20) (hj0 : j0 < n + 1) (h : ldQ S lo ev p n i0 j0 L) {v : Nat} (hv : v = ldR S lo ev p n i0 j0) : ldQ S lo ev p n i0 (j0 + 1) (aU L 190 (21 * i0 + cl n j0) (lN v)) := fun i j hi hj hc => by
  by_cases e : i = i0 ∧ j = j0
  · obtain ⟨rfl, rfl⟩ := e; rw [aU_s, hv]
  · have c1 := cl_21 hn hj
    have c2 := cl_21 hn hj0
    have : ¬ 21 * i + cl n j = 21 * i0 + cl n j0 := fun z => e ⟨by omega, cl_inj hn hj hj0 (by omega)⟩
    rw [aU_n (by omega)]; exact h i j hi hj (by omega)
set_option maxHeartbeats 1000000 in
theorem ml_pLd {I : Nat → Nat → Int32} {L : Nat → Nat → Int64} {R : Nat → Nat → Option Nat} (hR : aRf R) {n : Nat} (hn : I 159 21 = nI n) (hn20 : n ≤ 20) {p : Nat} (hp : 2 ≤ p) (hp2 : p ≤ 2147483648) {S : jQt} {lo : Nat → Bool} {ev : Nat → Nat} (hS : rsRep L n S) (hlo : ∀ i, i < n → I 186 i = bI (lo i)) (hev : ∀ i, i < n → I 184 i = nI (ev i) ∧ ev i < 2147483648) (hbd : sBd S n) {i : Nat} (hi : i < n) {Q : Option Value → aH → Prop} (kk : ∀ (L2 : Nat → Nat → Int64), ldQ S lo ev p n i n L2 → lK190 L L2 → aX mX11_byPrime aE0 (sh0, I, L2, R) 85 [(0, .ref 159), (1, .long (lN p)), (3, .int (nI n)), (4, .int (nI i)), (5, .int (nI n))] [] 0 0 Q) : ∀ (k9 j : Nat), j ≤ n → n - j = k9 → ∀ (L1 : Nat → Nat → Int64), ldQ S lo ev p n i j L1 → lK190 L L1 → aX mX11_byPrime aE0 (sh0, I, L1, R) 17 [(0, .ref 159), (1, .long (lN (p))), (3, .int (nI (n))), (4, .int (nI (i))), (5, .int (nI (j)))] [] 0 0 Q := by
  intro k9
  induction k9 using Nat.strongRecOn with
  | _ k9 ih =>
    intro j hij hk9 L1  hd hl
    refine aX_iload dX11_byPrime_17 rfl ?_
    refine aX_iload_n dX11_byPrime_19 rfl ?_
    refine nGe (tgt := 85) dX11_byPrime_20 (by decide) (by first | omega | exact Nat.lt_of_le_of_lt (Nat.mod_le _ _) (by omega)) (by first | omega | exact Nat.lt_of_le_of_lt (Nat.mod_le _ _) (by omega)) (fun c1 => ?_) (fun c1 => ?_)
    · obtain rfl : j = n := by omega
      exact kk L1 hd hl
    · have hjn : j < n := c1
      have hA : ldR S lo ev p n i j = (lsA S lo i j % p).toNat := if_pos hjn
      refine aX_aload_n dX11_byPrime_23 rfl ?_
      refine aX_get dX11_byPrime_24 lfX11_110 s159 (f159_39 hR) ?_
      refine aX_bipush (v := nI 21) dX11_byPrime_27 (by decide) ?_
      refine aX_iload dX11_byPrime_29 rfl ?_
      refine nMul dX11_byPrime_31 ?_
      refine aX_iload dX11_byPrime_32 rfl ?_
      refine nAdd dX11_byPrime_34 ?_
      refine aX_aload_n dX11_byPrime_35 rfl ?_
      refine aX_get dX11_byPrime_36 lfX11_98 s159 (f159_31 hR) ?_
      refine aX_iload dX11_byPrime_39 rfl ?_
      refine nZald (v := bI (lo i)) dX11_byPrime_41 s186 (by first | omega | exact Nat.lt_of_le_of_lt (Nat.mod_le _ _) (by omega)) (by decide) (hlo i (by omega)) ?_
      refine bEq (tgt := 60) dX11_byPrime_42 (by decide) (fun c2 => ?_) (fun c2 => ?_)
      · have hAe : lsA S lo i j = S.1 i j := by unfold lsA; rw [c2]; rfl
        refine aX_aload_n dX11_byPrime_60 rfl ?_
        refine aX_aload_n dX11_byPrime_61 rfl ?_
        refine aX_get dX11_byPrime_62 lfX11_86 s159 (f159_27 hR) ?_
        refine aX_bipush (v := nI 20) dX11_byPrime_65 (by decide) ?_
        refine aX_iload dX11_byPrime_67 rfl ?_
        refine nMul dX11_byPrime_69 ?_
        refine aX_iload dX11_byPrime_70 rfl ?_
        refine nAdd dX11_byPrime_72 ?_
        refine nLald (v := lZ (S.1 i j)) dX11_byPrime_73 s182 (by first | omega | exact Nat.lt_of_le_of_lt (Nat.mod_le _ _) (by omega)) (by decide) ((hl 182 _ (by decide)).trans (hS.1 i j (by omega) (by omega))) ?_
        refine aX_lload_n dX11_byPrime_74 rfl ?_
        refine cVp (As := [.long (lZ (S.1 i j)), .long (lN (p))]) (st := [.int (nI ((21 * i) + j)), .ref 190]) (v := .long (lN (((S.1 i j) % p).toNat))) dX11_byPrime_75 kX11_byPrime_230 s159 aEok0 rfl rfl (Nat.le_of_ble_eq_true rfl) (m_mod (hbd.1 i j (by omega) (by omega)).1 (hbd.1 i j (by omega) (by omega)).2 (by omega) (by omega)) ?_
        refine nLast dX11_byPrime_78 s190 (by first | omega | exact Nat.lt_of_le_of_lt (Nat.mod_le _ _) (by omega)) (by decide) ?_
        obtain ⟨L2, hL2⟩ : ∃ z, z = (aU L1 190 ((21 * i) + j) (lN (((S.1 i j) % p).toNat))) := ⟨_, rfl⟩
        rw [← hL2]
        have hd2 : ldQ S lo ev p n i (j + 1) L2 := by
          have g := ldQ_set hn20 (by omega) hd (v := ((S.1 i j) % p).toNat) (by rw [hA, hAe])
          rw [cl_lt hjn] at g
          rw [hL2]; exact g
        have hl2 : lK190 L L2 := by rw [hL2]; exact lK190_set hl
        refine nInc (lv' := [(0, .ref 159), (1, .long (lN (p))), (3, .int (nI (n))), (4, .int (nI (i))), (5, .int (nI (j + 1)))]) dX11_byPrime_79 rfl rfl (by decide) rfl ?_
        refine aX_goto (tgt := 17) dX11_byPrime_82 (by decide) ?_
        exact ih (n - (j + 1)) (by omega) (j + 1) (by omega) rfl L2 hd2 hl2
      · have hlt := c2
        refine aX_iload dX11_byPrime_45 rfl ?_
        refine aX_iload dX11_byPrime_47 rfl ?_
        refine nNe (tgt := 56) dX11_byPrime_49 (by decide) (by first | omega | exact Nat.lt_of_le_of_lt (Nat.mod_le _ _) (by omega)) (by first | omega | exact Nat.lt_of_le_of_lt (Nat.mod_le _ _) (by omega)) (fun c3 => ?_) (fun c3 => ?_)
        · have hAe : lsA S lo i j = 0 := by unfold lsA; rw [hlt, if_pos rfl, if_neg c3]
          refine aX_lconst (v := lN 0) dX11_byPrime_56 rfl ?_
          refine aX_goto (tgt := 78) dX11_byPrime_57 (by decide) ?_
          refine nLast dX11_byPrime_78 s190 (by first | omega | exact Nat.lt_of_le_of_lt (Nat.mod_le _ _) (by omega)) (by decide) ?_
          obtain ⟨L2, hL2⟩ : ∃ z, z = (aU L1 190 ((21 * i) + j) (lN (0))) := ⟨_, rfl⟩
          rw [← hL2]
          have hd2 : ldQ S lo ev p n i (j + 1) L2 := by
            have g := ldQ_set hn20 (by omega) hd (v := 0) (by rw [hA, hAe]; rw [Int.zero_emod]; rfl)
            rw [cl_lt hjn] at g
            rw [hL2]; exact g
          have hl2 : lK190 L L2 := by rw [hL2]; exact lK190_set hl
          refine nInc (lv' := [(0, .ref 159), (1, .long (lN (p))), (3, .int (nI (n))), (4, .int (nI (i))), (5, .int (nI (j + 1)))]) dX11_byPrime_79 rfl rfl (by decide) rfl ?_
          refine aX_goto (tgt := 17) dX11_byPrime_82 (by decide) ?_
          exact ih (n - (j + 1)) (by omega) (j + 1) (by omega) rfl L2 hd2 hl2
        · have hAe : lsA S lo i j = 1 := by unfold lsA; rw [hlt, if_pos rfl, if_pos c3]
          refine aX_lconst (v := lN 1) dX11_byPrime_52 rfl ?_
          refine aX_goto (tgt := 78) dX11_byPrime_53 (by decide) ?_
          refine nLast dX11_byPrime_78 s190 (by first | omega | exact Nat.lt_of_le_of_lt (Nat.mod_le _ _) (by omega)) (by decide) ?_
          obtain ⟨L2, hL2⟩ : ∃ z, z = (aU L1 190 ((21 * i) + j) (lN (1))) := ⟨_, rfl⟩
          rw [← hL2]
          have hd2 : ldQ S lo ev p n i (j + 1) L2 := by
            have g := ldQ_set hn20 (by omega) hd (v := 1) (by rw [hA, hAe]; rw [Int.emod_eq_of_lt (by omega) (by omega)]; rfl)
            rw [cl_lt hjn] at g
            rw [hL2]; exact g
          have hl2 : lK190 L L2 := by rw [hL2]; exact lK190_set hl
          refine nInc (lv' := [(0, .ref 159), (1, .long (lN (p))), (3, .int (nI (n))), (4, .int (nI (i))), (5, .int (nI (j + 1)))]) dX11_byPrime_79 rfl rfl (by decide) rfl ?_
          refine aX_goto (tgt := 17) dX11_byPrime_82 (by decide) ?_
          exact ih (n - (j + 1)) (by omega) (j + 1) (by omega) rfl L2 hd2 hl2
set_option maxHeartbeats 1000000 in
theorem ml_pLo {I : Nat → Nat → Int32} {L : Nat → Nat → Int64} {R : Nat → Nat → Option Nat} (hR : aRf R) {n : Nat} (hn : I 159 21 = nI n) (hn20 : n ≤ 20) {p : Nat} (hp : 2 ≤ p) (hp2 : p ≤ 2147483648) {S : jQt} {lo : Nat → Bool} {ev : Nat → Nat} (hS : rsRep L n S) (hlo : ∀ i, i < n → I 186 i = bI (lo i)) (hev : ∀ i, i < n → I 184 i = nI (ev i) ∧ ev i < 2147483648) (hbd : sBd S n) {Q : Option Value → aH → Prop} (kk : ∀ (L2 : Nat → Nat → Int64), wkR L2 (ldR S lo ev p n) n → lK190 L L2 → aX mX11_byPrime aE0 (sh0, I, L2, R) 137 [(0, .ref 159), (1, .long (lN p)), (3, .int (nI n)), (4, .int (nI n))] [] 0 0 Q) : ∀ (k9 i : Nat), i ≤ n → n - i = k9 → ∀ (L1 : Nat → Nat → Int64), ldQ S lo ev p n i 0 L1 → lK190 L L1 → aX mX11_byPrime aE0 (sh0, I, L1, R) 8 [(0, .ref 159), (1, .long (lN (p))), (3, .int (nI (n))), (4, .int (nI (i)))] [] 0 0 Q := by
  intro k9
  induction k9 using Nat.strongRecOn with
  | _ k9 ih =>
    intro i hi hk9 L1  hd hl
    refine aX_iload dX11_byPrime_8 rfl ?_
    refine aX_iload_n dX11_byPrime_10 rfl ?_
    refine nGe (tgt := 137) dX11_byPrime_11 (by decide) (by first | omega | exact Nat.lt_of_le_of_lt (Nat.mod_le _ _) (by omega)) (by first | omega | exact Nat.lt_of_le_of_lt (Nat.mod_le _ _) (by omega)) (fun c1 => ?_) (fun c1 => ?_)
    · obtain rfl : i = n := by omega
      exact kk L1 (fun a b ha hb => hd a b ha hb (by omega)) hl
    · refine aX_iconst (v := nI 0) dX11_byPrime_14 (by decide) ?_
      refine aX_istore (lv' := [(0, .ref 159), (1, .long (lN (p))), (3, .int (nI (n))), (4, .int (nI (i))), (5, .int (nI (0)))]) dX11_byPrime_15 (by decide) rfl ?_
      refine ml_pLd hR hn hn20 hp hp2 hS hlo hev hbd (i := i) (by omega) (fun L2 hd2 hl2 => ?_) _ 0 (by omega) rfl L1 hd hl
      refine aX_aload_n dX11_byPrime_85 rfl ?_
      refine aX_get dX11_byPrime_86 lfX11_110 s159 (f159_39 hR) ?_
      refine aX_bipush (v := nI 21) dX11_byPrime_89 (by decide) ?_
      refine aX_iload dX11_byPrime_91 rfl ?_
      refine nMul dX11_byPrime_93 ?_
      refine aX_bipush (v := nI 20) dX11_byPrime_94 (by decide) ?_
      refine nAdd dX11_byPrime_96 ?_
      refine aX_aload_n dX11_byPrime_97 rfl ?_
      refine aX_aload_n dX11_byPrime_98 rfl ?_
      refine aX_get dX11_byPrime_99 lfX11_98 s159 (f159_31 hR) ?_
      refine aX_iload dX11_byPrime_102 rfl ?_
      refine nZald (v := bI (lo i)) dX11_byPrime_104 s186 (by first | omega | exact Nat.lt_of_le_of_lt (Nat.mod_le _ _) (by omega)) (by decide) (hlo i (by omega)) ?_
      refine bEq (tgt := 119) dX11_byPrime_105 (by decide) (fun c1 => ?_) (fun c1 => ?_)
      · have hBe : lsB S lo ev i = S.2.1 i := by unfold lsB; rw [c1]; rfl
        refine aX_aload_n dX11_byPrime_119 rfl ?_
        refine aX_get dX11_byPrime_120 lfX11_89 s159 (f159_28 hR) ?_
        refine aX_iload dX11_byPrime_123 rfl ?_
        refine nLald (v := lZ (S.2.1 i)) dX11_byPrime_125 s183 (by first | omega | exact Nat.lt_of_le_of_lt (Nat.mod_le _ _) (by omega)) (by decide) ((hl2 183 _ (by decide)).trans (hS.2.1 i (by omega))) ?_
        refine aX_lload_n dX11_byPrime_126 rfl ?_
        refine cVp (As := [.long (lZ (S.2.1 i)), .long (lN (p))]) (st := [.int (nI ((21 * i) + 20)), .ref 190]) (v := .long (lN (((S.2.1 i) % p).toNat))) dX11_byPrime_127 kX11_byPrime_230 s159 aEok0 rfl rfl (Nat.le_of_ble_eq_true rfl) (m_mod (hbd.2.1 i (by omega)).1 (hbd.2.1 i (by omega)).2 (by omega) (by omega)) ?_
        refine nLast dX11_byPrime_130 s190 (by first | omega | exact Nat.lt_of_le_of_lt (Nat.mod_le _ _) (by omega)) (by decide) ?_
        obtain ⟨L3, hL3⟩ : ∃ z, z = (aU L2 190 ((21 * i) + 20) (lN (((S.2.1 i) % p).toNat))) := ⟨_, rfl⟩
        rw [← hL3]
        have hd3 : ldQ S lo ev p n (i + 1) 0 L3 := by
          have g := ldQ_set hn20 (by omega) hd2 (v := ((S.2.1 i) % p).toNat) (by rw [show ldR S lo ev p n i n = (lsB S lo ev i % p).toNat from if_neg (by omega), hBe])
          rw [cl_n] at g
          rw [hL3]
          exact fun a b ha hb hc => g a b ha hb (by omega)
        have hl3 : lK190 L L3 := by rw [hL3]; exact lK190_set hl2
        refine nInc (lv' := [(0, .ref 159), (1, .long (lN (p))), (3, .int (nI (n))), (4, .int (nI (i + 1))), (5, .int (nI (n)))]) dX11_byPrime_131 rfl rfl (by decide) rfl ?_
        refine aX_goto (tgt := 8) dX11_byPrime_134 (by decide) ?_
        refine aX_lv (lv' := [(0, .ref 159), (1, .long (lN (p))), (3, .int (nI (n))), (4, .int (nI (i + 1)))]) [0, 1, 2, 3] rfl ?_
        exact ih (n - (i + 1)) (by omega) (i + 1) (by omega) rfl L3 hd3 hl3
      · have hBe : lsB S lo ev i = (ev i : Int) := by unfold lsB; rw [c1]; rfl
        have hevi := (hev i (by omega)).2
        refine aX_aload_n dX11_byPrime_108 rfl ?_
        refine aX_get dX11_byPrime_109 lfX11_92 s159 (f159_29 hR) ?_
        refine aX_iload dX11_byPrime_112 rfl ?_
        refine nIald (v := nI (ev i)) dX11_byPrime_114 s184 (by first | omega | exact Nat.lt_of_le_of_lt (Nat.mod_le _ _) (by omega)) (by decide) ((hev i (by omega)).1) ?_
        refine kI2l dX11_byPrime_115 (by first | omega | exact Nat.lt_of_le_of_lt (Nat.mod_le _ _) (by omega)) ?_
        refine aX_goto (tgt := 126) dX11_byPrime_116 (by decide) ?_
        refine aX_lload_n dX11_byPrime_126 rfl ?_
        rw [kZ (ev i)]
        refine cVp (As := [.long (lZ (((ev i : Nat) : Int))), .long (lN (p))]) (st := [.int (nI ((21 * i) + 20)), .ref 190]) (v := .long (lN ((((ev i : Nat) : Int) % p).toNat))) dX11_byPrime_127 kX11_byPrime_230 s159 aEok0 rfl rfl (Nat.le_of_ble_eq_true rfl) (m_mod (by omega) (by omega) (by omega) (by omega)) ?_
        refine nLast dX11_byPrime_130 s190 (by first | omega | exact Nat.lt_of_le_of_lt (Nat.mod_le _ _) (by omega)) (by decide) ?_
        obtain ⟨L3, hL3⟩ : ∃ z, z = (aU L2 190 ((21 * i) + 20) (lN ((((ev i : Nat) : Int) % p).toNat))) := ⟨_, rfl⟩
        rw [← hL3]
        have hd3 : ldQ S lo ev p n (i + 1) 0 L3 := by
          have g := ldQ_set hn20 (by omega) hd2 (v := (((ev i : Nat) : Int) % p).toNat) (by rw [show ldR S lo ev p n i n = (lsB S lo ev i % p).toNat from if_neg (by omega), hBe])
          rw [cl_n] at g
          rw [hL3]
          exact fun a b ha hb hc => g a b ha hb (by omega)
        have hl3 : lK190 L L3 := by rw [hL3]; exact lK190_set hl2
        refine nInc (lv' := [(0, .ref 159), (1, .long (lN (p))), (3, .int (nI (n))), (4, .int (nI (i + 1))), (5, .int (nI (n)))]) dX11_byPrime_131 rfl rfl (by decide) rfl ?_
        refine aX_goto (tgt := 8) dX11_byPrime_134 (by decide) ?_
        refine aX_lv (lv' := [(0, .ref 159), (1, .long (lN (p))), (3, .int (nI (n))), (4, .int (nI (i + 1)))]) [0, 1, 2, 3] rfl ?_
        exact ih (n - (i + 1)) (by omega) (i + 1) (by omega) rfl L3 hd3 hl3
set_option maxHeartbeats 1000000 in
theorem ml_pFr {I : Nat → Nat → Int32} {L : Nat → Nat → Int64} {R : Nat → Nat → Option Nat} (hR : aRf R) {n : Nat} (hn : I 159 21 = nI n) (hn20 : n ≤ 20) {p : Nat} (hp : 2 ≤ p) (hp2 : p ≤ 2147483648) {W : Nx} (hw : wkR L W n) (hlt : ∀ i j, i < n → j < n + 1 → W i j < p) {c d : Nat} (hc : c < n) {Q : Option Value → aH → Prop} (kf : (∀ r, c ≤ r → r < n → W r c = 0) → Q (some (.int (nI 0))) (sh0, I, L, R)) (kk : ∀ r, c ≤ r → r < n → W r c ≠ 0 → aX mX11_byPrime aE0 (sh0, I, L, R) 191 [(0, .ref 159), (1, .long (lN p)), (3, .int (nI n)), (4, .long (lN d)), (6, .int (nI c)), (7, .int (nI r))] [] 0 0 Q) : ∀ (k9 r : Nat), r ≤ n → n - r = k9 → c ≤ r → (∀ q, c ≤ q → q < r → W q c = 0) → aX mX11_byPrime aE0 (sh0, I, L, R) 153 [(0, .ref 159), (1, .long (lN (p))), (3, .int (nI (n))), (4, .long (lN (d))), (6, .int (nI (c))), (7, .int (nI (r)))] [] 0 0 Q := by
  intro k9
  induction k9 using Nat.strongRecOn with
  | _ k9 ih =>
    intro r hi hk9  hcr hz
    refine aX_iload dX11_byPrime_153 rfl ?_
    refine aX_iload_n dX11_byPrime_155 rfl ?_
    refine nGe (tgt := 183) dX11_byPrime_156 (by decide) (by first | omega | exact Nat.lt_of_le_of_lt (Nat.mod_le _ _) (by omega)) (by first | omega | exact Nat.lt_of_le_of_lt (Nat.mod_le _ _) (by omega)) (fun c1 => ?_) (fun c1 => ?_)
    · have hrn : r = n := by omega
      refine aX_iload dX11_byPrime_183 rfl ?_
      refine aX_iload_n dX11_byPrime_185 rfl ?_
      refine nNe (tgt := 191) dX11_byPrime_186 (by decide) (by first | omega | exact Nat.lt_of_le_of_lt (Nat.mod_le _ _) (by omega)) (by first | omega | exact Nat.lt_of_le_of_lt (Nat.mod_le _ _) (by omega)) (fun c2 => ?_) (fun c2 => ?_)
      · exact absurd hrn c2
      · refine aX_iconst (v := nI 0) dX11_byPrime_189 (by decide) ?_
        exact rZ dX11_byPrime_190 rfl (Or.inl rfl) (kf (fun q h1 h2 => hz q h1 (by omega)))
    · have hrn : r < n := c1
      have hrl := hlt r c hrn (by omega)
      refine aX_aload_n dX11_byPrime_159 rfl ?_
      refine aX_get dX11_byPrime_160 lfX11_110 s159 (f159_39 hR) ?_
      refine aX_bipush (v := nI 21) dX11_byPrime_163 (by decide) ?_
      refine aX_iload dX11_byPrime_165 rfl ?_
      refine nMul dX11_byPrime_167 ?_
      refine aX_iload dX11_byPrime_168 rfl ?_
      refine nAdd dX11_byPrime_170 ?_
      refine nLald (v := lN (W r c)) dX11_byPrime_171 s190 (by first | omega | exact Nat.lt_of_le_of_lt (Nat.mod_le _ _) (by omega)) (by decide) (by have y := hw r c hrn (by omega); rw [cl_lt hc] at y; exact y) ?_
      refine aX_lconst (v := lN 0) dX11_byPrime_172 rfl ?_
      refine aX_lcmp dX11_byPrime_173 ?_
      refine kIf_ne (tgt := 183) dX11_byPrime_174 (by decide) (by first | omega | exact Nat.lt_of_le_of_lt (Nat.mod_le _ _) (by omega)) (by first | omega | exact Nat.lt_of_le_of_lt (Nat.mod_le _ _) (by omega)) (fun c3 => ?_) (fun c3 => ?_)
      · have hne : W r c ≠ 0 := c3
        refine aX_iload dX11_byPrime_183 rfl ?_
        refine aX_iload_n dX11_byPrime_185 rfl ?_
        refine nNe (tgt := 191) dX11_byPrime_186 (by decide) (by first | omega | exact Nat.lt_of_le_of_lt (Nat.mod_le _ _) (by omega)) (by first | omega | exact Nat.lt_of_le_of_lt (Nat.mod_le _ _) (by omega)) (fun c4 => ?_) (fun c4 => ?_)
        · exact kk r hcr hrn hne
        · exact absurd c4 (by omega)
      · have hz0 : W r c = 0 := c3
        refine nInc (lv' := [(0, .ref 159), (1, .long (lN (p))), (3, .int (nI (n))), (4, .long (lN (d))), (6, .int (nI (c))), (7, .int (nI (r + 1)))]) dX11_byPrime_177 rfl rfl (by decide) rfl ?_
        refine aX_goto (tgt := 153) dX11_byPrime_180 (by decide) ?_
        exact ih (n - (r + 1)) (by omega) (r + 1) (by omega) rfl (by omega) (fun q h1 h2 => by
          by_cases e : q = r
          · rw [e]; exact hz0
          · exact hz q h1 (by omega))
set_option maxHeartbeats 1000000 in
theorem ml_pSw {I : Nat → Nat → Int32} {L : Nat → Nat → Int64} {R : Nat → Nat → Option Nat} (hR : aRf R) {n : Nat} (hn : I 159 21 = nI n) (hn20 : n ≤ 20) {p : Nat} (hp : 2 ≤ p) (hp2 : p ≤ 2147483648) {W : Nx} {c d r : Nat} (hc : c < n) (hr : r < n) (hcr : c < r) {Q : Option Value → aH → Prop} (kk : ∀ L2 : Nat → Nat → Int64, wkR L2 (wSwap W c r) n → lK190 L L2 → aX mX11_byPrime aE0 (sh0, I, L2, R) 276 [(0, .ref 159), (1, .long (lN p)), (3, .int (nI n)), (4, .long (lN d)), (6, .int (nI c)), (7, .int (nI r))] [] 0 0 Q) : ∀ (k9 a : Nat), a ≤ 21 → 21 - a = k9 → ∀ (L1 : Nat → Nat → Int64), (∀ i j, i < n → j < n + 1 → L1 190 (21 * i + cl n j) = lN (if cl n j < a then wSwap W c r i j else W i j)) → lK190 L L1 → aX mX11_byPrime aE0 (sh0, I, L1, R) 207 [(0, .ref 159), (1, .long (lN (p))), (3, .int (nI (n))), (4, .long (lN (d))), (6, .int (nI (c))), (7, .int (nI (r))), (8, .int (nI (a)))] [] 0 0 Q := by
  intro k9
  induction k9 using Nat.strongRecOn with
  | _ k9 ih =>
    intro a hi hk9 L1  hm hl
    refine aX_iload dX11_byPrime_207 rfl ?_
    refine aX_bipush (v := nI 21) dX11_byPrime_209 (by decide) ?_
    refine nGe (tgt := 276) dX11_byPrime_211 (by decide) (by first | omega | exact Nat.lt_of_le_of_lt (Nat.mod_le _ _) (by omega)) (by first | omega | exact Nat.lt_of_le_of_lt (Nat.mod_le _ _) (by omega)) (fun c1 => ?_) (fun c1 => ?_)
    · refine aX_lv (lv' := [(0, .ref 159), (1, .long (lN (p))), (3, .int (nI (n))), (4, .long (lN (d))), (6, .int (nI (c))), (7, .int (nI (r)))]) [0, 1, 2, 3, 4, 5] rfl ?_
      exact kk L1 (fun i j hi hj => by rw [hm i j hi hj, if_pos (by have := cl_21 hn20 hj; omega)]) hl
    · refine aX_aload_n dX11_byPrime_214 rfl ?_
      refine aX_get dX11_byPrime_215 lfX11_110 s159 (f159_39 hR) ?_
      refine aX_bipush (v := nI 21) dX11_byPrime_218 (by decide) ?_
      refine aX_iload dX11_byPrime_220 rfl ?_
      refine nMul dX11_byPrime_222 ?_
      refine aX_iload dX11_byPrime_223 rfl ?_
      refine nAdd dX11_byPrime_225 ?_
      refine nLald (v := L1 190 ((21 * c) + a)) dX11_byPrime_226 s190 (by first | omega | exact Nat.lt_of_le_of_lt (Nat.mod_le _ _) (by omega)) (by decide) (rfl) ?_
      refine aX_lstore (lv' := [(0, .ref 159), (1, .long (lN (p))), (3, .int (nI (n))), (4, .long (lN (d))), (6, .int (nI (c))), (7, .int (nI (r))), (8, .int (nI (a))), (9, .long (L1 190 ((21 * c) + a)))]) dX11_byPrime_227 (by decide) rfl ?_
      refine aX_aload_n dX11_byPrime_229 rfl ?_
      refine aX_get dX11_byPrime_230 lfX11_110 s159 (f159_39 hR) ?_
      refine aX_bipush (v := nI 21) dX11_byPrime_233 (by decide) ?_
      refine aX_iload dX11_byPrime_235 rfl ?_
      refine nMul dX11_byPrime_237 ?_
      refine aX_iload dX11_byPrime_238 rfl ?_
      refine nAdd dX11_byPrime_240 ?_
      refine aX_aload_n dX11_byPrime_241 rfl ?_
      refine aX_get dX11_byPrime_242 lfX11_110 s159 (f159_39 hR) ?_
      refine aX_bipush (v := nI 21) dX11_byPrime_245 (by decide) ?_
      refine aX_iload dX11_byPrime_247 rfl ?_
      refine nMul dX11_byPrime_249 ?_
      refine aX_iload dX11_byPrime_250 rfl ?_
      refine nAdd dX11_byPrime_252 ?_
      refine nLald (v := L1 190 ((21 * r) + a)) dX11_byPrime_253 s190 (by first | omega | exact Nat.lt_of_le_of_lt (Nat.mod_le _ _) (by omega)) (by decide) (rfl) ?_
      refine nLast dX11_byPrime_254 s190 (by first | omega | exact Nat.lt_of_le_of_lt (Nat.mod_le _ _) (by omega)) (by decide) ?_
      refine aX_aload_n dX11_byPrime_255 rfl ?_
      refine aX_get dX11_byPrime_256 lfX11_110 s159 (f159_39 hR) ?_
      refine aX_bipush (v := nI 21) dX11_byPrime_259 (by decide) ?_
      refine aX_iload dX11_byPrime_261 rfl ?_
      refine nMul dX11_byPrime_263 ?_
      refine aX_iload dX11_byPrime_264 rfl ?_
      refine nAdd dX11_byPrime_266 ?_
      refine aX_lload dX11_byPrime_267 rfl ?_
      refine nLast dX11_byPrime_269 s190 (by first | omega | exact Nat.lt_of_le_of_lt (Nat.mod_le _ _) (by omega)) (by decide) ?_
      refine nInc (lv' := [(0, .ref 159), (1, .long (lN (p))), (3, .int (nI (n))), (4, .long (lN (d))), (6, .int (nI (c))), (7, .int (nI (r))), (8, .int (nI (a + 1))), (9, .long (L1 190 ((21 * c) + a)))]) dX11_byPrime_270 rfl rfl (by decide) rfl ?_
      refine aX_goto (tgt := 207) dX11_byPrime_273 (by decide) ?_
      refine aX_lv (lv' := [(0, .ref 159), (1, .long (lN (p))), (3, .int (nI (n))), (4, .long (lN (d))), (6, .int (nI (c))), (7, .int (nI (r))), (8, .int (nI (a + 1)))]) [0, 1, 2, 3, 4, 5, 6] rfl ?_
      exact ih (21 - (a + 1)) (by omega) (a + 1) (by omega) rfl _ (fun i j hi hj => by
        have c21 := cl_21 hn20 hj
        by_cases ea : cl n j = a
        · have hcc := hm c j hc hj
          have hrr := hm r j hr hj
          rw [if_neg (by omega), ea] at hcc hrr
          rw [if_pos (by omega), ea]
          unfold wSwap
          by_cases e1 : i = r
          · rw [e1, aU_s, hcc, if_neg (by omega), if_pos rfl]
          · rw [aU_n (by omega)]
            by_cases e2 : i = c
            · rw [e2, aU_s, hrr, if_pos rfl]
            · rw [aU_n (by omega), if_neg e2, if_neg e1]
              have := hm i j hi hj
              rw [if_neg (by omega), ea] at this; exact this
        · rw [aU_n (by omega), aU_n (by omega), hm i j hi hj]
          by_cases e3 : cl n j < a
          · rw [if_pos e3, if_pos (by omega)]
          · rw [if_neg e3, if_neg (by omega)]) (lK190_set (lK190_set hl))
set_option maxHeartbeats 1000000 in
theorem ml_pSc {I : Nat → Nat → Int32} {L : Nat → Nat → Int64} {R : Nat → Nat → Option Nat} (hR : aRf R) {n : Nat} (hn : I 159 21 = nI n) (hn20 : n ≤ 20) {p : Nat} (hp : 2 ≤ p) (hp2 : p ≤ 2147483648) {W : Nx} (hlt : ∀ i j, i < n → j < n + 1 → W i j < p) {c d r f : Nat} (hc : c < n) (hr : r < n) (hf : f < p) {Q : Option Value → aH → Prop} (kk : ∀ L2 : Nat → Nat → Int64, wkR L2 (wScale W p c f (n + 1)) n → lK190 L L2 → aX mX11_byPrime aE0 (sh0, I, L2, R) 364 [(0, .ref 159), (1, .long (lN p)), (3, .int (nI n)), (4, .long (lN d)), (6, .int (nI c)), (7, .int (nI r)), (8, .long (lN f)), (10, .int (nI 21))] [] 0 0 Q) : ∀ (k9 a : Nat), a ≤ 21 → 21 - a = k9 → ∀ (L1 : Nat → Nat → Int64), c ≤ a → (∀ i j, i < n → j < n + 1 → L1 190 (21 * i + cl n j) = lN (if i = c ∧ c ≤ j ∧ cl n j < a then W c j * f % p else W i j)) → lK190 L L1 → aX mX11_byPrime aE0 (sh0, I, L1, R) 320 [(0, .ref 159), (1, .long (lN (p))), (3, .int (nI (n))), (4, .long (lN (d))), (6, .int (nI (c))), (7, .int (nI (r))), (8, .long (lN (f))), (10, .int (nI (a)))] [] 0 0 Q := by
  intro k9
  induction k9 using Nat.strongRecOn with
  | _ k9 ih =>
    intro a hi hk9 L1  hca hm hl
    refine aX_iload dX11_byPrime_320 rfl ?_
    refine aX_bipush (v := nI 21) dX11_byPrime_322 (by decide) ?_
    refine nGe (tgt := 364) dX11_byPrime_324 (by decide) (by first | omega | exact Nat.lt_of_le_of_lt (Nat.mod_le _ _) (by omega)) (by first | omega | exact Nat.lt_of_le_of_lt (Nat.mod_le _ _) (by omega)) (fun c1 => ?_) (fun c1 => ?_)
    · obtain rfl : a = 21 := by omega
      exact kk L1 (fun i j hi hj => by rw [hm i j hi hj]; unfold wScale; have := cl_21 hn20 hj; congr 1; simp [this, hj]) hl
    · have ha21 : a < 21 := c1
      by_cases hgb : n ≤ a ∧ a < 20
      · have hgg := hgb
        refine aX_aload_n dX11_byPrime_327 rfl ?_
        refine aX_get dX11_byPrime_328 lfX11_110 s159 (f159_39 hR) ?_
        refine aX_bipush (v := nI 21) dX11_byPrime_331 (by decide) ?_
        refine aX_iload dX11_byPrime_333 rfl ?_
        refine nMul dX11_byPrime_335 ?_
        refine aX_iload dX11_byPrime_336 rfl ?_
        refine nAdd dX11_byPrime_338 ?_
        refine aX_aload_n dX11_byPrime_339 rfl ?_
        refine aX_get dX11_byPrime_340 lfX11_110 s159 (f159_39 hR) ?_
        refine aX_bipush (v := nI 21) dX11_byPrime_343 (by decide) ?_
        refine aX_iload dX11_byPrime_345 rfl ?_
        refine nMul dX11_byPrime_347 ?_
        refine aX_iload dX11_byPrime_348 rfl ?_
        refine nAdd dX11_byPrime_350 ?_
        refine nLald (v := L1 190 ((21 * c) + a)) dX11_byPrime_351 s190 (by first | omega | exact Nat.lt_of_le_of_lt (Nat.mod_le _ _) (by omega)) (by decide) (rfl) ?_
        refine aX_lload dX11_byPrime_352 rfl ?_
        refine aX_lmul dX11_byPrime_354 ?_
        refine aX_lload_n dX11_byPrime_355 rfl ?_
        refine aX_lrem dX11_byPrime_356 (lN_ne0 (by omega) (by omega)) ?_
        refine nLast dX11_byPrime_357 s190 (by first | omega | exact Nat.lt_of_le_of_lt (Nat.mod_le _ _) (by omega)) (by decide) ?_
        refine nInc (lv' := [(0, .ref 159), (1, .long (lN (p))), (3, .int (nI (n))), (4, .long (lN (d))), (6, .int (nI (c))), (7, .int (nI (r))), (8, .long (lN (f))), (10, .int (nI (a + 1)))]) dX11_byPrime_358 rfl rfl (by decide) rfl ?_
        refine aX_goto (tgt := 320) dX11_byPrime_361 (by decide) ?_
        exact ih (21 - (a + 1)) (by omega) (a + 1) (by omega) rfl _ (by omega) (fun i j hi hj => by
          have c21 := cl_21 hn20 hj
          have cg9 := cl_gb hj hgb.1 hgb.2
          rw [aU_n (by omega), hm i j hi hj]
          by_cases e3 : i = c ∧ c ≤ j ∧ cl n j < a
          · rw [if_pos e3, if_pos (by omega)]
          · rw [if_neg e3, if_neg (by omega)]) (lK190_set hl)
      · obtain ⟨j, hj, hja⟩ : ∃ j, j < n + 1 ∧ cl n j = a := by
          by_cases e : a < n
          · exact ⟨a, by omega, cl_lt e⟩
          · exact ⟨n, by omega, by rw [cl_n]; omega⟩
        have hjc : c ≤ j := by
          by_cases e : j = n
          · omega
          · have := cl_lt (show j < n by omega); omega
        have hold : L1 190 (21 * c + a) = lN (W c j) := by
          have y := hm c j hc hj
          rw [if_neg (by omega), hja] at y; exact y
        have hpm := mul_lt62 (hlt c j hc hj) hf hp2
        refine aX_aload_n dX11_byPrime_327 rfl ?_
        refine aX_get dX11_byPrime_328 lfX11_110 s159 (f159_39 hR) ?_
        refine aX_bipush (v := nI 21) dX11_byPrime_331 (by decide) ?_
        refine aX_iload dX11_byPrime_333 rfl ?_
        refine nMul dX11_byPrime_335 ?_
        refine aX_iload dX11_byPrime_336 rfl ?_
        refine nAdd dX11_byPrime_338 ?_
        refine aX_aload_n dX11_byPrime_339 rfl ?_
        refine aX_get dX11_byPrime_340 lfX11_110 s159 (f159_39 hR) ?_
        refine aX_bipush (v := nI 21) dX11_byPrime_343 (by decide) ?_
        refine aX_iload dX11_byPrime_345 rfl ?_
        refine nMul dX11_byPrime_347 ?_
        refine aX_iload dX11_byPrime_348 rfl ?_
        refine nAdd dX11_byPrime_350 ?_
        refine nLald (v := lN (W c j)) dX11_byPrime_351 s190 (by first | omega | exact Nat.lt_of_le_of_lt (Nat.mod_le _ _) (by omega)) (by decide) (hold) ?_
        refine aX_lload dX11_byPrime_352 rfl ?_
        refine kMul dX11_byPrime_354 ?_
        refine aX_lload_n dX11_byPrime_355 rfl ?_
        refine kRem dX11_byPrime_356 (by exact hpm) (by first | omega | exact Nat.lt_of_le_of_lt (Nat.mod_le _ _) (by omega)) (by first | omega | exact Nat.lt_of_le_of_lt (Nat.mod_le _ _) (by omega)) ?_
        refine nLast dX11_byPrime_357 s190 (by first | omega | exact Nat.lt_of_le_of_lt (Nat.mod_le _ _) (by omega)) (by decide) ?_
        refine nInc (lv' := [(0, .ref 159), (1, .long (lN (p))), (3, .int (nI (n))), (4, .long (lN (d))), (6, .int (nI (c))), (7, .int (nI (r))), (8, .long (lN (f))), (10, .int (nI (a + 1)))]) dX11_byPrime_358 rfl rfl (by decide) rfl ?_
        refine aX_goto (tgt := 320) dX11_byPrime_361 (by decide) ?_
        exact ih (21 - (a + 1)) (by omega) (a + 1) (by omega) rfl _ (by omega) (fun i k hi hk => by
          have c21 := cl_21 hn20 hk
          by_cases e1 : i = c ∧ k = j
          · rw [e1.1, e1.2, hja, aU_s, if_pos ⟨rfl, hjc, by omega⟩]
          · have hne : ¬ (21 * i + cl n k = 21 * c + a) := fun z => e1 ⟨by omega, cl_inj hn20 hk hj (by omega)⟩
            rw [aU_n (by omega), hm i k hi hk]
            by_cases e3 : i = c ∧ c ≤ k ∧ cl n k < a
            · rw [if_pos e3, if_pos (by omega)]
            · rw [if_neg e3, if_neg (by omega)]) (lK190_set hl)
set_option maxHeartbeats 1000000 in
theorem ml_pSb {I : Nat → Nat → Int32} {L : Nat → Nat → Int64} {R : Nat → Nat → Option Nat} (hR : aRf R) {n : Nat} (hn : I 159 21 = nI n) (hn20 : n ≤ 20) {p : Nat} (hp : 2 ≤ p) (hp2 : p ≤ 2147483648) {W : Nx} (hlt : ∀ i j, i < n → j < n + 1 → W i j < p) {c d r f b : Nat} (hc : c < n) (hr : r < n) (hb : b < n) (hbc : ¬ b = c) (hfl : W b c < p) (hfz : ¬ W b c = 0) {Q : Option Value → aH → Prop} (kk : ∀ L2 : Nat → Nat → Int64, wkR L2 (wSub W p c b (n + 1)) n → lK190 L L2 → aX mX11_byPrime aE0 (sh0, I, L2, R) 469 [(0, .ref 159), (1, .long (lN p)), (3, .int (nI n)), (4, .long (lN d)), (6, .int (nI c)), (7, .int (nI r)), (8, .long (lN f)), (10, .int (nI b)), (11, .long (lN (W b c))), (13, .int (nI 21))] [] 0 0 Q) : ∀ (k9 a : Nat), a ≤ 21 → 21 - a = k9 → ∀ (L1 : Nat → Nat → Int64), c ≤ a → (∀ i j, i < n → j < n + 1 → L1 190 (21 * i + cl n j) = lN (if i = b ∧ c ≤ j ∧ cl n j < a then (W b j + (p - W b c) * W c j) % p else W i j)) → lK190 L L1 → aX mX11_byPrime aE0 (sh0, I, L1, R) 392 [(0, .ref 159), (1, .long (lN (p))), (3, .int (nI (n))), (4, .long (lN (d))), (6, .int (nI (c))), (7, .int (nI (r))), (8, .long (lN (f))), (10, .int (nI (b))), (11, .long (lN (W b c))), (13, .int (nI (a)))] [] 0 0 Q := by
  intro k9
  induction k9 using Nat.strongRecOn with
  | _ k9 ih =>
    intro a hi hk9 L1  hca hm hl
    refine aX_iload dX11_byPrime_392 rfl ?_
    refine aX_bipush (v := nI 21) dX11_byPrime_394 (by decide) ?_
    refine nGe (tgt := 469) dX11_byPrime_396 (by decide) (by first | omega | exact Nat.lt_of_le_of_lt (Nat.mod_le _ _) (by omega)) (by first | omega | exact Nat.lt_of_le_of_lt (Nat.mod_le _ _) (by omega)) (fun c1 => ?_) (fun c1 => ?_)
    · obtain rfl : a = 21 := by omega
      exact kk L1 (fun i j hi hj => by rw [hm i j hi hj]; unfold wSub; have := cl_21 hn20 hj; congr 1; simp [this, hj]) hl
    · have ha21 : a < 21 := c1
      refine aX_iload dX11_byPrime_399 rfl ?_
      refine aX_iload dX11_byPrime_401 rfl ?_
      refine nEq (tgt := 469) dX11_byPrime_403 (by decide) (by first | omega | exact Nat.lt_of_le_of_lt (Nat.mod_le _ _) (by omega)) (by first | omega | exact Nat.lt_of_le_of_lt (Nat.mod_le _ _) (by omega)) (fun c2 => ?_) (fun c2 => ?_)
      · exact absurd c2 hbc
      · refine aX_lload dX11_byPrime_406 rfl ?_
        refine aX_lconst (v := lN 0) dX11_byPrime_408 rfl ?_
        refine aX_lcmp dX11_byPrime_409 ?_
        refine kIf_eq (tgt := 469) dX11_byPrime_410 (by decide) (by first | omega | exact Nat.lt_of_le_of_lt (Nat.mod_le _ _) (by omega)) (by first | omega | exact Nat.lt_of_le_of_lt (Nat.mod_le _ _) (by omega)) (fun c3 => ?_) (fun c3 => ?_)
        · exact absurd c3 hfz
        · by_cases hgb : n ≤ a ∧ a < 20
          · have hgg := hgb
            refine aX_aload_n dX11_byPrime_413 rfl ?_
            refine aX_get dX11_byPrime_414 lfX11_110 s159 (f159_39 hR) ?_
            refine aX_bipush (v := nI 21) dX11_byPrime_417 (by decide) ?_
            refine aX_iload dX11_byPrime_419 rfl ?_
            refine nMul dX11_byPrime_421 ?_
            refine aX_iload dX11_byPrime_422 rfl ?_
            refine nAdd dX11_byPrime_424 ?_
            refine aX_aload_n dX11_byPrime_425 rfl ?_
            refine aX_aload_n dX11_byPrime_426 rfl ?_
            refine aX_get dX11_byPrime_427 lfX11_110 s159 (f159_39 hR) ?_
            refine aX_bipush (v := nI 21) dX11_byPrime_430 (by decide) ?_
            refine aX_iload dX11_byPrime_432 rfl ?_
            refine nMul dX11_byPrime_434 ?_
            refine aX_iload dX11_byPrime_435 rfl ?_
            refine nAdd dX11_byPrime_437 ?_
            refine nLald (v := L1 190 ((21 * b) + a)) dX11_byPrime_438 s190 (by first | omega | exact Nat.lt_of_le_of_lt (Nat.mod_le _ _) (by omega)) (by decide) (rfl) ?_
            refine aX_lload dX11_byPrime_439 rfl ?_
            refine aX_aload_n dX11_byPrime_441 rfl ?_
            refine aX_get dX11_byPrime_442 lfX11_110 s159 (f159_39 hR) ?_
            refine aX_bipush (v := nI 21) dX11_byPrime_445 (by decide) ?_
            refine aX_iload dX11_byPrime_447 rfl ?_
            refine nMul dX11_byPrime_449 ?_
            refine aX_iload dX11_byPrime_450 rfl ?_
            refine nAdd dX11_byPrime_452 ?_
            refine nLald (v := L1 190 ((21 * c) + a)) dX11_byPrime_453 s190 (by first | omega | exact Nat.lt_of_le_of_lt (Nat.mod_le _ _) (by omega)) (by decide) (rfl) ?_
            refine aX_lmul dX11_byPrime_454 ?_
            refine aX_lload_n dX11_byPrime_455 rfl ?_
            refine aX_lrem dX11_byPrime_456 (lN_ne0 (by omega) (by omega)) ?_
            refine aX_lsub dX11_byPrime_457 ?_
            refine aX_lload_n dX11_byPrime_458 rfl ?_
            refine cVp (As := [.long ((L1 190 ((21 * b) + a)) - (((lN (W b c)) * (L1 190 ((21 * c) + a))) - ((lN (W b c)) * (L1 190 ((21 * c) + a))) / (lN (p)) * (lN (p)))), .long (lN (p))]) (st := [.int (nI ((21 * b) + a)), .ref 190]) (v := .long (lN ((((L1 190 ((21 * b) + a)) - (((lN (W b c)) * (L1 190 ((21 * c) + a))) - ((lN (W b c)) * (L1 190 ((21 * c) + a))) / (lN (p)) * (lN (p)))).toInt % p).toNat))) dX11_byPrime_459 kX11_byPrime_230 s159 aEok0 rfl rfl (Nat.le_of_ble_eq_true rfl) (m_modJ (by omega) (by omega)) ?_
            refine nLast dX11_byPrime_462 s190 (by first | omega | exact Nat.lt_of_le_of_lt (Nat.mod_le _ _) (by omega)) (by decide) ?_
            refine nInc (lv' := [(0, .ref 159), (1, .long (lN (p))), (3, .int (nI (n))), (4, .long (lN (d))), (6, .int (nI (c))), (7, .int (nI (r))), (8, .long (lN (f))), (10, .int (nI (b))), (11, .long (lN (W b c))), (13, .int (nI (a + 1)))]) dX11_byPrime_463 rfl rfl (by decide) rfl ?_
            refine aX_goto (tgt := 392) dX11_byPrime_466 (by decide) ?_
            exact ih (21 - (a + 1)) (by omega) (a + 1) (by omega) rfl _ (by omega) (fun i j hi hj => by
              have c21 := cl_21 hn20 hj
              have cg9 := cl_gb hj hgb.1 hgb.2
              rw [aU_n (by omega), hm i j hi hj]
              by_cases e3 : i = b ∧ c ≤ j ∧ cl n j < a
              · rw [if_pos e3, if_pos (by omega)]
              · rw [if_neg e3, if_neg (by omega)]) (lK190_set hl)
          · obtain ⟨j, hj, hja⟩ : ∃ j, j < n + 1 ∧ cl n j = a := by
              by_cases e : a < n
              · exact ⟨a, by omega, cl_lt e⟩
              · exact ⟨n, by omega, by rw [cl_n]; omega⟩
            have hjc : c ≤ j := by
              by_cases e : j = n
              · omega
              · have := cl_lt (show j < n by omega); omega
            have holdb : L1 190 (21 * b + a) = lN (W b j) := by
              have y := hm b j hb hj
              rw [if_neg (by omega), hja] at y; exact y
            have holdc : L1 190 (21 * c + a) = lN (W c j) := by
              have y := hm c j hc hj
              rw [if_neg (by omega), hja] at y; exact y
            have hbl := hlt b j hb hj
            have hpm := mul_lt62 hfl (hlt c j hc hj) hp2
            have hml : W b c * W c j % p < p := Nat.mod_lt _ (by omega)
            refine aX_aload_n dX11_byPrime_413 rfl ?_
            refine aX_get dX11_byPrime_414 lfX11_110 s159 (f159_39 hR) ?_
            refine aX_bipush (v := nI 21) dX11_byPrime_417 (by decide) ?_
            refine aX_iload dX11_byPrime_419 rfl ?_
            refine nMul dX11_byPrime_421 ?_
            refine aX_iload dX11_byPrime_422 rfl ?_
            refine nAdd dX11_byPrime_424 ?_
            refine aX_aload_n dX11_byPrime_425 rfl ?_
            refine aX_aload_n dX11_byPrime_426 rfl ?_
            refine aX_get dX11_byPrime_427 lfX11_110 s159 (f159_39 hR) ?_
            refine aX_bipush (v := nI 21) dX11_byPrime_430 (by decide) ?_
            refine aX_iload dX11_byPrime_432 rfl ?_
            refine nMul dX11_byPrime_434 ?_
            refine aX_iload dX11_byPrime_435 rfl ?_
            refine nAdd dX11_byPrime_437 ?_
            refine nLald (v := lN (W b j)) dX11_byPrime_438 s190 (by first | omega | exact Nat.lt_of_le_of_lt (Nat.mod_le _ _) (by omega)) (by decide) (holdb) ?_
            refine aX_lload dX11_byPrime_439 rfl ?_
            refine aX_aload_n dX11_byPrime_441 rfl ?_
            refine aX_get dX11_byPrime_442 lfX11_110 s159 (f159_39 hR) ?_
            refine aX_bipush (v := nI 21) dX11_byPrime_445 (by decide) ?_
            refine aX_iload dX11_byPrime_447 rfl ?_
            refine nMul dX11_byPrime_449 ?_
            refine aX_iload dX11_byPrime_450 rfl ?_
            refine nAdd dX11_byPrime_452 ?_
            refine nLald (v := lN (W c j)) dX11_byPrime_453 s190 (by first | omega | exact Nat.lt_of_le_of_lt (Nat.mod_le _ _) (by omega)) (by decide) (holdc) ?_
            refine kMul dX11_byPrime_454 ?_
            refine aX_lload_n dX11_byPrime_455 rfl ?_
            refine kRem dX11_byPrime_456 (by exact hpm) (by first | omega | exact Nat.lt_of_le_of_lt (Nat.mod_le _ _) (by omega)) (by first | omega | exact Nat.lt_of_le_of_lt (Nat.mod_le _ _) (by omega)) ?_
            refine ySub (a := ((W b j : Nat) : Int)) (b := ((((W b c) * (W c j)) % p : Nat) : Int)) dX11_byPrime_457 (kZ _) (kZ _) ?_
            refine aX_lload_n dX11_byPrime_458 rfl ?_
            refine cVp (As := [.long (lZ ((((W b j : Nat) : Int)) - (((((W b c) * (W c j)) % p : Nat) : Int)))), .long (lN (p))]) (st := [.int (nI ((21 * b) + a)), .ref 190]) (v := .long (lN (((((W b j : Nat) : Int) - ((W b c * W c j % p : Nat) : Int)) % ((p : Nat) : Int)).toNat))) dX11_byPrime_459 kX11_byPrime_230 s159 aEok0 rfl rfl (Nat.le_of_ble_eq_true rfl) (m_mod (by omega) (by omega) (by omega) (by omega)) ?_
            refine nLast dX11_byPrime_462 s190 (by first | omega | exact Nat.lt_of_le_of_lt (Nat.mod_le _ _) (by omega)) (by decide) ?_
            refine nInc (lv' := [(0, .ref 159), (1, .long (lN (p))), (3, .int (nI (n))), (4, .long (lN (d))), (6, .int (nI (c))), (7, .int (nI (r))), (8, .long (lN (f))), (10, .int (nI (b))), (11, .long (lN (W b c))), (13, .int (nI (a + 1)))]) dX11_byPrime_463 rfl rfl (by decide) rfl ?_
            refine aX_goto (tgt := 392) dX11_byPrime_466 (by decide) ?_
            exact ih (21 - (a + 1)) (by omega) (a + 1) (by omega) rfl _ (by omega) (fun i k hi hk => by
              have c21 := cl_21 hn20 hk
              by_cases e1 : i = b ∧ k = j
              · rw [e1.1, e1.2, hja, aU_s, if_pos ⟨rfl, hjc, by omega⟩, sub_val (by omega) hfl]
              · have hne : ¬ (21 * i + cl n k = 21 * b + a) := fun z => e1 ⟨by omega, cl_inj hn20 hk hj (by omega)⟩
                rw [aU_n (by omega), hm i k hi hk]
                by_cases e3 : i = b ∧ c ≤ k ∧ cl n k < a
                · rw [if_pos e3, if_pos (by omega)]
                · rw [if_neg e3, if_neg (by omega)]) (lK190_set hl)
