/-! THE SOLVER: one prime -/
theorem lt_ndvd {p a : Nat} (h0 : a ≠ 0) (h : a < p) : ¬ p ∣ a := fun z => by have := Nat.le_of_dvd (by omega) z; omega
def rmOk (L : Nat → Nat → Int64) (q p n : Nat) (Yf : Nat → Int) : Prop := ∀ i, (i < n ∨ i = 20 ∨ i = 21) → ∃ v : Nat, L q i = lN v ∧ v < p ∧ cg p (v : Int) (Yf i)
def yU (n : Nat) (X : Nat → Int) (D e : Int) (i : Nat) : Int := if i < n then X i else if i = 20 then D else e
set_option maxHeartbeats 1000000 in
theorem l_scale {I : Nat → Nat → Int32} {L : Nat → Nat → Int64} {R : Nat → Nat → Option Nat} (hR : aRf R) {n : Nat} (hn : I 53 4 = nI n) (hn20 : n ≤ 20) {p : Nat} (hp : 2 ≤ p) (hp2 : p ≤ 1073741824) {W : Nx} (hlt : ∀ i j, i < n → j < n + 1 → W i j < p) {c r d f : Nat} (hc : c < n) (hf : f < p) {Q : Option Value → aH → Prop} (kk : ∀ (L2 : Nat → Nat → Int64), wk L2 (wScale W p c f (n + 1)) n → lK 80 99 L L2 → aX mX6_eliminate aE0 (sh0, I, L2, R) 130 [(0, .ref 77), (1, .long (lN p)), (3, .int (nI n)), (4, .long (lN d)), (6, .int (nI c)), (7, .int (nI r)), (8, .long (lN f)), (10, .int (nI (n + 1)))] [] 0 0 Q) : ∀ (k9 j : Nat), j ≤ n + 1 → (n + 1) - j = k9 → ∀ (L1 : Nat → Nat → Int64), c ≤ j → wk L1 (wScale W p c f j) n → lK 80 99 L L1 → aX mX6_eliminate aE0 (sh0, I, L1, R) 93 [(0, .ref 77), (1, .long (lN (p))), (3, .int (nI (n))), (4, .long (lN (d))), (6, .int (nI (c))), (7, .int (nI (r))), (8, .long (lN (f))), (10, .int (nI (j)))] [] 0 0 Q := by
  intro k9
  induction k9 using Nat.strongRecOn with
  | _ k9 ih =>
    intro j hi hk9 L1  hcj hd hl
    have hmm : j < n + 1 → W c j * f < 2 ^ 63 := fun g => mul_lt62 (hlt c j hc g) hf (by omega)
    refine aX_iload dX6_eliminate_93 rfl ?_
    refine aX_iload_n dX6_eliminate_95 rfl ?_
    refine nGt (tgt := 130) dX6_eliminate_96 (by decide) (by first | omega | exact Nat.lt_of_le_of_lt (Nat.mod_le _ _) (by omega)) (by first | omega | exact Nat.lt_of_le_of_lt (Nat.mod_le _ _) (by omega)) (fun c1 => ?_) (fun c1 => ?_)
    · obtain rfl : j = n + 1 := by omega
      exact kk L1 hd hl
    · refine aX_aload_n dX6_eliminate_99 rfl ?_
      refine aX_get dX6_eliminate_100 lfX6_19 s77 (f77_2 hR) ?_
      refine aX_iload dX6_eliminate_103 rfl ?_
      refine nAald (r := 80 + c) dX6_eliminate_105 s79 (by decide) (by first | omega | exact Nat.lt_of_le_of_lt (Nat.mod_le _ _) (by omega)) (by decide) (r79 hR c (by omega)) ?_
      refine aX_iload dX6_eliminate_106 rfl ?_
      refine aX_aload_n dX6_eliminate_108 rfl ?_
      refine aX_get dX6_eliminate_109 lfX6_19 s77 (f77_2 hR) ?_
      refine aX_iload dX6_eliminate_112 rfl ?_
      refine nAald (r := 80 + c) dX6_eliminate_114 s79 (by decide) (by first | omega | exact Nat.lt_of_le_of_lt (Nat.mod_le _ _) (by omega)) (by decide) (r79 hR c (by omega)) ?_
      refine aX_iload dX6_eliminate_115 rfl ?_
      refine nLald (v := lN (W c j)) dX6_eliminate_117 (s79r c (by omega)) (by first | omega | exact Nat.lt_of_le_of_lt (Nat.mod_le _ _) (by omega)) (by decide) ((hd c j (by omega) (by omega)).trans (by unfold wScale; rw [if_neg (by omega)])) ?_
      refine aX_lload dX6_eliminate_118 rfl ?_
      refine kMul dX6_eliminate_120 ?_
      refine aX_lload_n dX6_eliminate_121 rfl ?_
      refine kRem dX6_eliminate_122 (by exact hmm (by omega)) (by first | omega | exact Nat.lt_of_le_of_lt (Nat.mod_le _ _) (by omega)) (by first | omega | exact Nat.lt_of_le_of_lt (Nat.mod_le _ _) (by omega)) ?_
      refine nLast dX6_eliminate_123 (s79r c (by omega)) (by first | omega | exact Nat.lt_of_le_of_lt (Nat.mod_le _ _) (by omega)) (by decide) ?_
      refine nInc (lv' := [(0, .ref 77), (1, .long (lN (p))), (3, .int (nI (n))), (4, .long (lN (d))), (6, .int (nI (c))), (7, .int (nI (r))), (8, .long (lN (f))), (10, .int (nI (j + 1)))]) dX6_eliminate_124 rfl rfl (by decide) rfl ?_
      refine aX_goto (tgt := 93) dX6_eliminate_127 (by decide) ?_
      exact ih (n + 1 - (j + 1)) (by omega) (j + 1) (by omega) rfl _ (by omega) (by
        refine wk_set hd (fun x y hx hy => ?_)
        unfold wScale
        by_cases e : x = c ∧ y = j
        · rw [if_pos e, if_pos (show x = c ∧ c ≤ y ∧ y < j + 1 from ⟨e.1, by omega, by omega⟩), e.2]
        · rw [if_neg e]
          by_cases e1 : x = c ∧ c ≤ y ∧ y < j
          · rw [if_pos e1, if_pos (show x = c ∧ c ≤ y ∧ y < j + 1 from ⟨e1.1, e1.2.1, by omega⟩)]
          · rw [if_neg e1, if_neg (by omega)]) (lK_set hl (by omega) (by omega))
set_option maxHeartbeats 1000000 in
theorem l_subAll {I : Nat → Nat → Int32} {L : Nat → Nat → Int64} {R : Nat → Nat → Option Nat} (hR : aRf R) {n : Nat} (hn : I 53 4 = nI n) (hn20 : n ≤ 20) {p : Nat} (hp : 2 ≤ p) (hp2 : p ≤ 1073741824) (hP : isP p) {A : Mx} {X : Nat → Int} {c r d f : Nat} (hc : c < n) {Q : Option Value → aH → Prop} (kk : ∀ (L2 : Nat → Nat → Int64) (W2 : Nx), wk L2 W2 n → eIn p n A X W2 d (c + 1) → lK 80 99 L L2 → aX mX6_eliminate aE0 (sh0, I, L2, R) 14 [(0, .ref 77), (1, .long (lN p)), (3, .int (nI n)), (4, .long (lN d)), (6, .int (nI (c + 1)))] [] 0 0 Q) : ∀ (k9 b : Nat), b ≤ n → n - b = k9 → ∀ (L1 : Nat → Nat → Int64) (W1 : Nx), c < b → wk L1 W1 n → eIn p n A X W1 d c → W1 c c = 1 → (∀ q, c < q → q < b → W1 q c = 0) → lK 80 99 L L1 → aX mX6_eliminate aE0 (sh0, I, L1, R) 136 [(0, .ref 77), (1, .long (lN (p))), (3, .int (nI (n))), (4, .long (lN (d))), (6, .int (nI (c))), (7, .int (nI (r))), (8, .long (lN (f))), (10, .int (nI (b)))] [] 0 0 Q := by
  intro k9
  induction k9 using Nat.strongRecOn with
  | _ k9 ih =>
    intro b hi hk9 L1  W1  hcb hw1 he h1 hz hl
    refine aX_iload dX6_eliminate_136 rfl ?_
    refine aX_iload_n dX6_eliminate_138 rfl ?_
    refine nGe (tgt := 157) dX6_eliminate_139 (by decide) (by first | omega | exact Nat.lt_of_le_of_lt (Nat.mod_le _ _) (by omega)) (by first | omega | exact Nat.lt_of_le_of_lt (Nat.mod_le _ _) (by omega)) (fun c1 => ?_) (fun c1 => ?_)
    · refine nInc (lv' := [(0, .ref 77), (1, .long (lN (p))), (3, .int (nI (n))), (4, .long (lN (d))), (6, .int (nI (c + 1))), (7, .int (nI (r))), (8, .long (lN (f))), (10, .int (nI (b)))]) dX6_eliminate_157 rfl rfl (by decide) rfl ?_
      refine aX_goto (tgt := 14) dX6_eliminate_160 (by decide) ?_
      refine aX_lv (lv' := [(0, .ref 77), (1, .long (lN (p))), (3, .int (nI (n))), (4, .long (lN (d))), (6, .int (nI (c + 1)))]) [0, 1, 2, 3, 4] rfl ?_
      exact kk L1 W1 hw1 (eIn_next he h1 (fun q g1 g2 => hz q g1 (by omega))) hl
    · refine aX_aload_n dX6_eliminate_142 rfl ?_
      refine aX_iload dX6_eliminate_143 rfl ?_
      refine aX_iload dX6_eliminate_145 rfl ?_
      refine aX_lload_n dX6_eliminate_147 rfl ?_
      refine cV (As := [.int (nI (c)), .int (nI (b)), .long (lN (p))]) (st := []) dX6_eliminate_148 kX6_eliminate_99 s77 aEok0 rfl rfl (Nat.le_of_ble_eq_true rfl) (c_subtractRow hR hn hn20 hw1 hp hp2 he.2.2.2.2 (c := c) (b := b) (by omega) (by omega)) (fun ans' h' hq9 => ?_)
      obtain ⟨rfl, L2, rfl, hw2, hl2⟩ := hq9
      refine ⟨rfl, ?_⟩
      obtain ⟨he2, hz2⟩ := eIn_sub he hp (b := b) (by omega) (by omega) h1
      refine nInc (lv' := [(0, .ref 77), (1, .long (lN (p))), (3, .int (nI (n))), (4, .long (lN (d))), (6, .int (nI (c))), (7, .int (nI (r))), (8, .long (lN (f))), (10, .int (nI (b + 1)))]) dX6_eliminate_151 rfl rfl (by decide) rfl ?_
      refine aX_goto (tgt := 136) dX6_eliminate_154 (by decide) ?_
      exact ih (n - (b + 1)) (by omega) (b + 1) (by omega) rfl L2 _ (by omega) hw2 he2 (by unfold wSub; rw [if_neg (by omega)]; exact h1) (fun q g1 g2 => by
        by_cases e : q = b
        · subst e; exact hz2
        · unfold wSub; rw [if_neg (by omega)]; exact hz q g1 (by omega)) (lK_trans hl hl2)
set_option maxHeartbeats 1000000 in
theorem l_elim56 {I : Nat → Nat → Int32} {L : Nat → Nat → Int64} {R : Nat → Nat → Option Nat} (hR : aRf R) {n : Nat} (hn : I 53 4 = nI n) (hn20 : n ≤ 20) {p : Nat} (hp : 2 ≤ p) (hp2 : p ≤ 1073741824) (hP : isP p) {A : Mx} {X : Nat → Int} {W : Nx} {c r d : Nat} {Q : Option Value → aH → Prop} {L1 : Nat → Nat → Int64} (hc : c < n) (hw : wk L1 W n) (he : eIn p n A X W d c) (hne : W c c ≠ 0) (hdp : d ≤ p) (hl : lK 80 99 L L1) (kk : ∀ (L2 : Nat → Nat → Int64) (W2 : Nx) (d2 : Nat), wk L2 W2 n → eIn p n A X W2 d2 (c + 1) → d2 < p → lK 80 99 L L2 → aX mX6_eliminate aE0 (sh0, I, L2, R) 14 [(0, .ref 77), (1, .long (lN p)), (3, .int (nI n)), (4, .long (lN d2)), (6, .int (nI (c + 1)))] [] 0 0 Q) : aX mX6_eliminate aE0 (sh0, I, L1, R) 56 [(0, .ref 77), (1, .long (lN p)), (3, .int (nI n)), (4, .long (lN d)), (6, .int (nI c)), (7, .int (nI r))] [] 0 0 Q := by
  have hwc := he.2.2.2.2 c c hc (by omega)
  have hmm : d * W c c ≤ 1073741824 * 1073741824 := Nat.mul_le_mul (by omega) (by omega)
  refine aX_lload dX6_eliminate_56 rfl ?_
  refine aX_aload_n dX6_eliminate_58 rfl ?_
  refine aX_get dX6_eliminate_59 lfX6_19 s77 (f77_2 hR) ?_
  refine aX_iload dX6_eliminate_62 rfl ?_
  refine nAald (r := 80 + c) dX6_eliminate_64 s79 (by decide) (by first | omega | exact Nat.lt_of_le_of_lt (Nat.mod_le _ _) (by omega)) (by decide) (r79 hR c (by omega)) ?_
  refine aX_iload dX6_eliminate_65 rfl ?_
  refine nLald (v := lN (W c c)) dX6_eliminate_67 (s79r c (by omega)) (by first | omega | exact Nat.lt_of_le_of_lt (Nat.mod_le _ _) (by omega)) (by decide) (hw c c hc (by omega)) ?_
  refine kMul dX6_eliminate_68 ?_
  refine aX_lload_n dX6_eliminate_69 rfl ?_
  refine kRem dX6_eliminate_70 (by omega) (by first | omega | exact Nat.lt_of_le_of_lt (Nat.mod_le _ _) (by omega)) (by first | omega | exact Nat.lt_of_le_of_lt (Nat.mod_le _ _) (by omega)) ?_
  refine aX_lstore (lv' := [(0, .ref 77), (1, .long (lN (p))), (3, .int (nI (n))), (4, .long (lN ((d * (W c c)) % p))), (6, .int (nI (c))), (7, .int (nI (r)))]) dX6_eliminate_71 (by decide) rfl ?_
  refine aX_aload_n dX6_eliminate_73 rfl ?_
  refine aX_get dX6_eliminate_74 lfX6_19 s77 (f77_2 hR) ?_
  refine aX_iload dX6_eliminate_77 rfl ?_
  refine nAald (r := 80 + c) dX6_eliminate_79 s79 (by decide) (by first | omega | exact Nat.lt_of_le_of_lt (Nat.mod_le _ _) (by omega)) (by decide) (r79 hR c (by omega)) ?_
  refine aX_iload dX6_eliminate_80 rfl ?_
  refine nLald (v := lN (W c c)) dX6_eliminate_82 (s79r c (by omega)) (by first | omega | exact Nat.lt_of_le_of_lt (Nat.mod_le _ _) (by omega)) (by decide) (hw c c hc (by omega)) ?_
  refine aX_lload_n dX6_eliminate_83 rfl ?_
  refine cSp (As := [.long (lN (W c c)), .long (lN (p))]) (st := []) (v := .long (lN (W c c ^ (p - 2) % p))) dX6_eliminate_84 kX6_eliminate_65 aEok0 rfl rfl (Nat.le_of_ble_eq_true rfl) (c_inverse hp hp2 hwc) ?_
  refine aX_lstore (lv' := [(0, .ref 77), (1, .long (lN (p))), (3, .int (nI (n))), (4, .long (lN ((d * (W c c)) % p))), (6, .int (nI (c))), (7, .int (nI (r))), (8, .long (lN (W c c ^ (p - 2) % p)))]) dX6_eliminate_87 (by decide) rfl ?_
  refine aX_iload dX6_eliminate_89 rfl ?_
  refine aX_istore (lv' := [(0, .ref 77), (1, .long (lN (p))), (3, .int (nI (n))), (4, .long (lN ((d * (W c c)) % p))), (6, .int (nI (c))), (7, .int (nI (r))), (8, .long (lN (W c c ^ (p - 2) % p))), (10, .int (nI (c)))]) dX6_eliminate_91 (by decide) rfl ?_
  obtain ⟨f, hfe⟩ : ∃ z, z = W c c ^ (p - 2) % p := ⟨_, rfl⟩
  rw [← hfe]
  have hfp : f < p := by rw [hfe]; exact Nat.mod_lt _ (by omega)
  have hfi : W c c * f % p = 1 := by rw [hfe]; exact fermat_inv hP (lt_ndvd hne hwc)
  obtain ⟨he2, h12⟩ := eIn_scale he hp hc hfi
  have hd2 : d * W c c % p < p := Nat.mod_lt _ (by omega)
  refine l_scale hR hn hn20 hp hp2 he.2.2.2.2 hc hfp (fun L2 g1 g2 => ?_) _ c (by omega) rfl L1 (Nat.le_refl _) (fun x y hx hy => by rw [hw x y hx hy]; unfold wScale; rw [if_neg (by omega)]) hl
  refine aX_iload dX6_eliminate_130 rfl ?_
  refine aX_iconst (v := nI 1) dX6_eliminate_132 (by decide) ?_
  refine nAdd dX6_eliminate_133 ?_
  refine aX_istore (lv' := [(0, .ref 77), (1, .long (lN (p))), (3, .int (nI (n))), (4, .long (lN (d * W c c % p))), (6, .int (nI (c))), (7, .int (nI (r))), (8, .long (lN (f))), (10, .int (nI (c + 1)))]) dX6_eliminate_134 (by decide) rfl ?_
  exact l_subAll hR hn hn20 hp hp2 hP hc (fun L3 W3 q1 q2 q3 => kk L3 W3 _ q1 q2 hd2 q3) _ (c + 1) (by omega) rfl L2 _ (by omega) g1 he2 h12 (fun q a b => by omega) g2
set_option maxHeartbeats 1000000 in
theorem l_elim {I : Nat → Nat → Int32} {L : Nat → Nat → Int64} {R : Nat → Nat → Option Nat} (hR : aRf R) {n : Nat} (hn : I 53 4 = nI n) (hn20 : n ≤ 20) {p : Nat} (hp : 2 ≤ p) (hp2 : p ≤ 1073741824) (hP : isP p) {A : Mx} {X : Nat → Int} : ∀ (k9 c : Nat), c ≤ n → n - c = k9 → ∀ (L1 : Nat → Nat → Int64) (W : Nx) (d : Nat), wk L1 W n → eIn p n A X W d c → d < p → lK 80 99 L L1 → aX mX6_eliminate aE0 (sh0, I, L1, R) 14 [(0, .ref 77), (1, .long (lN (p))), (3, .int (nI (n))), (4, .long (lN (d))), (6, .int (nI (c)))] [] 0 0 (fun ans h' => ∃ d L', ans = some (.long (lN d)) ∧ h' = (sh0, I, L', R) ∧ lK 80 99 L L' ∧ d < p ∧ ((d = 0 ∧ cg p (dt n A) 0) ∨ ∃ W, wk L' W n ∧ eIn p n A X W d n)) := by
  intro k9
  induction k9 using Nat.strongRecOn with
  | _ k9 ih =>
    intro c hi hk9 L1  W  d  hw he hdp hl
    refine aX_iload dX6_eliminate_14 rfl ?_
    refine aX_iload_n dX6_eliminate_16 rfl ?_
    refine nGe (tgt := 163) dX6_eliminate_17 (by decide) (by first | omega | exact Nat.lt_of_le_of_lt (Nat.mod_le _ _) (by omega)) (by first | omega | exact Nat.lt_of_le_of_lt (Nat.mod_le _ _) (by omega)) (fun c1 => ?_) (fun c1 => ?_)
    · refine aX_lload dX6_eliminate_163 rfl ?_
      exact rL dX6_eliminate_165 rfl (⟨d, L1, rfl, rfl, hl, hdp, Or.inr ⟨W, hw, by rw [show c = n by omega] at he; exact he⟩⟩)
    · have hcn : c < n := c1
      refine aX_aload_n dX6_eliminate_20 rfl ?_
      refine aX_iload dX6_eliminate_21 rfl ?_
      refine cV (As := [.int (nI (c))]) (st := []) dX6_eliminate_23 kX6_eliminate_91 s77 aEok0 rfl rfl (Nat.le_of_ble_eq_true rfl) (c_findRow hR hn hn20 hw hp hp2 he.2.2.2.2 hcn) (fun ans' h' hq9 => ?_)
      obtain ⟨rfl, hfr⟩ := hq9
      rcases hfr with ⟨r, hr1, hr2, hr3, rfl⟩ | ⟨hr0, rfl⟩
      · refine ⟨rfl, ?_⟩
        refine aX_istore (lv' := [(0, .ref 77), (1, .long (lN (p))), (3, .int (nI (n))), (4, .long (lN (d))), (6, .int (nI (c))), (7, .int (nI (r)))]) dX6_eliminate_26 (by decide) rfl ?_
        refine aX_iload dX6_eliminate_28 rfl ?_
        refine aX_if_ge (tgt := 35) dX6_eliminate_30 (by decide) (fun c2 => ?_) (fun c2 => ?_)
        · refine aX_iload dX6_eliminate_35 rfl ?_
          refine aX_iload dX6_eliminate_37 rfl ?_
          refine nEq (tgt := 56) dX6_eliminate_39 (by decide) (by first | omega | exact Nat.lt_of_le_of_lt (Nat.mod_le _ _) (by omega)) (by first | omega | exact Nat.lt_of_le_of_lt (Nat.mod_le _ _) (by omega)) (fun c3 => ?_) (fun c3 => ?_)
          · obtain rfl : r = c := by omega
            exact l_elim56 hR hn hn20 hp hp2 hP hcn hw he hr3 (by omega) hl (fun L2 W2 d2 g1 g2 g3 g4 => ih (n - (r + 1)) (by omega) (r + 1) (by omega) rfl L2 W2 d2 g1 g2 g3 g4)
          · refine aX_aload_n dX6_eliminate_42 rfl ?_
            refine aX_iload dX6_eliminate_43 rfl ?_
            refine aX_iload dX6_eliminate_45 rfl ?_
            refine cV (As := [.int (nI (c)), .int (nI (r))]) (st := []) dX6_eliminate_47 kX6_eliminate_95 s77 aEok0 rfl rfl (Nat.le_of_ble_eq_true rfl) (c_swapRows hR hn hn20 hw hcn hr2 (by omega)) (fun ans' h' hq9 => ?_)
            obtain ⟨rfl, L2, rfl, hw2, hl2⟩ := hq9
            refine ⟨rfl, ?_⟩
            have he2 := eIn_swap he (r := r) (by omega) hr2 (by omega)
            refine aX_lload_n dX6_eliminate_50 rfl ?_
            refine aX_lload dX6_eliminate_51 rfl ?_
            refine kSub dX6_eliminate_53 (by first | omega | exact Nat.lt_of_le_of_lt (Nat.mod_le _ _) (by omega)) ?_
            refine aX_lstore (lv' := [(0, .ref 77), (1, .long (lN (p))), (3, .int (nI (n))), (4, .long (lN (p - d))), (6, .int (nI (c))), (7, .int (nI (r)))]) dX6_eliminate_54 (by decide) rfl ?_
            refine l_elim56 hR hn hn20 hp hp2 hP hcn hw2 he2 (by unfold wSwap; rw [if_pos rfl]; exact hr3) (by omega) (lK_trans hl hl2) (fun L2 W2 d2 g1 g2 g3 g4 => ih (n - (c + 1)) (by omega) (c + 1) (by omega) rfl L2 W2 d2 g1 g2 g3 g4)
        · exact absurd (nI_pos' (by omega)) c2
      · refine ⟨rfl, ?_⟩
        refine aX_istore (lv' := [(0, .ref 77), (1, .long (lN (p))), (3, .int (nI (n))), (4, .long (lN (d))), (6, .int (nI (c))), (7, .int ((-1)))]) dX6_eliminate_26 (by decide) rfl ?_
        refine aX_iload dX6_eliminate_28 rfl ?_
        refine aX_if_ge (tgt := 35) dX6_eliminate_30 (by decide) (fun c4 => ?_) (fun c4 => ?_)
        · exact absurd c4 (by decide)
        · refine aX_lconst (v := lN 0) dX6_eliminate_33 rfl ?_
          exact rL dX6_eliminate_34 rfl (⟨0, L1, rfl, rfl, hl, by omega, Or.inl ⟨rfl, eIn_fail he hcn hr0⟩⟩)
set_option maxHeartbeats 1000000 in
theorem c_eliminate {I : Nat → Nat → Int32} {L : Nat → Nat → Int64} {R : Nat → Nat → Option Nat} (hR : aRf R) {n : Nat} (hn : I 53 4 = nI n) (hn20 : n ≤ 20) {p : Nat} (hp : 2 ≤ p) (hp2 : p ≤ 1073741824) (hP : isP p) {A : Mx} {X : Nat → Int} {W : Nx} (hw : wk L W n) (he : eIn p n A X W 1 0) : aM mX6_eliminate [.ref 77, .long (lN p)] (sh0, I, L, R) (fun ans h' => ∃ d L', ans = some (.long (lN d)) ∧ h' = (sh0, I, L', R) ∧ lK 80 99 L L' ∧ d < p ∧ ((d = 0 ∧ cg p (dt n A) 0) ∨ ∃ W, wk L' W n ∧ eIn p n A X W d n)) := by
  refine aM_of plX6_eliminate (Nat.le_of_ble_eq_true rfl) ?_
  refine aX_aload_n dX6_eliminate_0 rfl ?_
  refine aX_get dX6_eliminate_1 lfX6_35 s77 (f77_0 hR) ?_
  refine aX_get (v := .int (nI (n))) dX6_eliminate_4 lfX6_56 s53 (congrArg Value.int (hn)) ?_
  refine aX_istore_n (lv' := [(0, .ref 77), (1, .long (lN (p))), (3, .int (nI (n)))]) dX6_eliminate_7 (by decide) rfl ?_
  refine aX_lconst (v := lN 1) dX6_eliminate_8 rfl ?_
  refine aX_lstore (lv' := [(0, .ref 77), (1, .long (lN (p))), (3, .int (nI (n))), (4, .long (lN (1)))]) dX6_eliminate_9 (by decide) rfl ?_
  refine aX_iconst (v := nI 0) dX6_eliminate_11 (by decide) ?_
  refine aX_istore (lv' := [(0, .ref 77), (1, .long (lN (p))), (3, .int (nI (n))), (4, .long (lN (1))), (6, .int (nI (0)))]) dX6_eliminate_12 (by decide) rfl ?_
  exact l_elim hR hn hn20 hp hp2 hP _ 0 (by omega) rfl L W 1 hw he (by omega) lK_refl
set_option maxHeartbeats 1000000 in
theorem l_sbIn {I : Nat → Nat → Int32} {L : Nat → Nat → Int64} {R : Nat → Nat → Option Nat} (hR : aRf R) {n : Nat} (hn : I 53 4 = nI n) (hn20 : n ≤ 20) {p : Nat} (hp : 2 ≤ p) (hp2 : p ≤ 1073741824) {u : Nat} (hu : u < 11) {W : Nx} (hw : wk L W n) (hlt : ∀ i j, i < n → j < n + 1 → W i j < p) {i d : Nat} (hi : i < n) {Rr : Nat → Nat} (hB : ∀ j, i < j → j < n → L (101 + u) j = lN (Rr j) ∧ Rr j < p) {Q : Option Value → aH → Prop} (kk : ∀ (v : Int), v = (W i n : Int) - sm n (fun a => if i < a then ((W i a * Rr a % p : Nat) : Int) else 0) → -(32212254720) ≤ v → v < 1073741824 → aX mX6_solveBy aE0 (sh0, I, L, R) 94 [(0, .ref 77), (1, .long (lN p)), (3, .ref (101 + u)), (4, .long (lN d)), (6, .int (nI n)), (7, .int (nI i)), (8, .long (lZ v)), (10, .int (nI n))] [] 0 0 Q) : ∀ (k9 j : Nat), j ≤ n → n - j = k9 → ∀ (v : Int), i < j → v = (W i n : Int) - sm j (fun a => if i < a then ((W i a * Rr a % p : Nat) : Int) else 0) → -(j * 1073741824 : Int) ≤ v → v < 1073741824 → aX mX6_solveBy aE0 (sh0, I, L, R) 59 [(0, .ref 77), (1, .long (lN (p))), (3, .ref (101 + u)), (4, .long (lN (d))), (6, .int (nI (n))), (7, .int (nI (i))), (8, .long (lZ (v))), (10, .int (nI (j)))] [] 0 0 Q := by
  intro k9
  induction k9 using Nat.strongRecOn with
  | _ k9 ih =>
    intro j hjn hk9 v  hij hv hb1 hb2
    have hmm : j < n → W i j * Rr j < 2 ^ 63 := fun g => mul_lt62 (hlt i j hi (by omega)) (hB j hij g).2 (by omega)
    refine aX_iload dX6_solveBy_59 rfl ?_
    refine aX_iload dX6_solveBy_61 rfl ?_
    refine nGe (tgt := 94) dX6_solveBy_63 (by decide) (by first | omega | exact Nat.lt_of_le_of_lt (Nat.mod_le _ _) (by omega)) (by first | omega | exact Nat.lt_of_le_of_lt (Nat.mod_le _ _) (by omega)) (fun c1 => ?_) (fun c1 => ?_)
    · obtain rfl : j = n := by omega
      exact kk v hv (by omega) hb2
    · refine aX_lload dX6_solveBy_66 rfl ?_
      refine aX_aload_n dX6_solveBy_68 rfl ?_
      refine aX_get dX6_solveBy_69 lfX6_19 s77 (f77_2 hR) ?_
      refine aX_iload dX6_solveBy_72 rfl ?_
      refine nAald (r := 80 + i) dX6_solveBy_74 s79 (by decide) (by first | omega | exact Nat.lt_of_le_of_lt (Nat.mod_le _ _) (by omega)) (by decide) (r79 hR i (by omega)) ?_
      refine aX_iload dX6_solveBy_75 rfl ?_
      refine nLald (v := lN (W i j)) dX6_solveBy_77 (s79r i (by omega)) (by first | omega | exact Nat.lt_of_le_of_lt (Nat.mod_le _ _) (by omega)) (by decide) (hw i j hi (by omega)) ?_
      refine aX_aload_n dX6_solveBy_78 rfl ?_
      refine aX_iload dX6_solveBy_79 rfl ?_
      refine nLald (v := lN (Rr j)) dX6_solveBy_81 (s100r u hu) (by first | omega | exact Nat.lt_of_le_of_lt (Nat.mod_le _ _) (by omega)) (by decide) ((hB j hij (by omega)).1) ?_
      refine kMul dX6_solveBy_82 ?_
      refine aX_lload_n dX6_solveBy_83 rfl ?_
      refine kRem dX6_solveBy_84 (by exact hmm (by omega)) (by first | omega | exact Nat.lt_of_le_of_lt (Nat.mod_le _ _) (by omega)) (by first | omega | exact Nat.lt_of_le_of_lt (Nat.mod_le _ _) (by omega)) ?_
      refine ySub (a := v) (b := ((((W i j) * (Rr j)) % p : Nat) : Int)) dX6_solveBy_85 (rfl) (kZ _) ?_
      refine aX_lstore (lv' := [(0, .ref 77), (1, .long (lN (p))), (3, .ref (101 + u)), (4, .long (lN (d))), (6, .int (nI (n))), (7, .int (nI (i))), (8, .long (lZ (v - (((((W i j) * (Rr j)) % p : Nat) : Int))))), (10, .int (nI (j)))]) dX6_solveBy_86 (by decide) rfl ?_
      refine nInc (lv' := [(0, .ref 77), (1, .long (lN (p))), (3, .ref (101 + u)), (4, .long (lN (d))), (6, .int (nI (n))), (7, .int (nI (i))), (8, .long (lZ (v - (((((W i j) * (Rr j)) % p : Nat) : Int))))), (10, .int (nI (j + 1)))]) dX6_solveBy_88 rfl rfl (by decide) rfl ?_
      refine aX_goto (tgt := 59) dX6_solveBy_91 (by decide) ?_
      exact ih (n - (j + 1)) (by omega) (j + 1) (by omega) rfl _ (by omega) (by rw [hv]; show _ = _ - (sm j _ + if i < j then _ else _); rw [if_pos (by omega)]; omega) (by have : W i j * Rr j % p < p := Nat.mod_lt _ (by omega); omega) (by omega)
set_option maxHeartbeats 1000000 in
theorem l_sbEn {I : Nat → Nat → Int32} {L : Nat → Nat → Int64} {R : Nat → Nat → Option Nat} (hR : aRf R) {S : jQt} {n : Nat} (hn : I 53 4 = nI n) (hn20 : n ≤ 20) {p : Nat} (hp : 2 ≤ p) (hp2 : p ≤ 1073741824) {u : Nat} (hu : u < 11) (hq : qRep L S) (hbd : sBd S n) {X : Nat → Int} {d : Nat} (hdp : d < p) (hdd : cg p (dt n S.1) d) {Rr : Nat → Nat} : ∀ (k9 i : Nat), i ≤ n → n - i = k9 → ∀ (L1 : Nat → Nat → Int64) (ev : Int), (∀ j, j < i → ∃ v : Nat, L1 (101 + u) j = lN v ∧ v < p ∧ cg p (v : Int) (X j)) → (∀ j, i ≤ j → j < n → L1 (101 + u) j = lN (Rr j) ∧ Rr j < p ∧ cg p ((Rr j : Int) * d) (X j)) → cg p ev (S.2.2 * dt n S.1 - sm i (fun j => S.2.1 j * X j)) → -(i * 1073741824 : Int) ≤ ev → ev < 1073741824 → (∀ q j, (q < 80 ∨ 99 < q) → q ≠ 101 + u → L1 q j = L q j) → aX mX6_solveBy aE0 (sh0, I, L1, R) 131 [(0, .ref 77), (1, .long (lN (p))), (3, .ref (101 + u)), (4, .long (lN (d))), (6, .int (nI (n))), (7, .long (lZ (ev))), (9, .int (nI (i)))] [] 0 0 (fun ans h' => ∃ L', h' = (sh0, I, L', R) ∧ (∀ q j, (q < 80 ∨ 99 < q) → q ≠ 101 + u → L' q j = L q j) ∧ ((ans = some (.int (nI 1)) ∧ rmOk L' (101 + u) p n (yU n X (dt n S.1) (S.2.2 * dt n S.1 - sm n (fun i => S.2.1 i * X i)))) ∨ False)) := by
  intro k9
  induction k9 using Nat.strongRecOn with
  | _ k9 ih =>
    intro i hi hk9 L1  ev  hA hB hev hb1 hb2 hk
    have hmm : i < n → Rr i * d < 2 ^ 63 := fun g => mul_lt62 (hB i (Nat.le_refl _) g).2.1 hdp (by omega)
    refine aX_iload dX6_solveBy_131 rfl ?_
    refine aX_iload dX6_solveBy_133 rfl ?_
    refine nGe (tgt := 183) dX6_solveBy_135 (by decide) (by first | omega | exact Nat.lt_of_le_of_lt (Nat.mod_le _ _) (by omega)) (by first | omega | exact Nat.lt_of_le_of_lt (Nat.mod_le _ _) (by omega)) (fun c1 => ?_) (fun c1 => ?_)
    · refine aX_aload_n dX6_solveBy_183 rfl ?_
      refine aX_bipush (v := nI 20) dX6_solveBy_184 (by decide) ?_
      refine aX_lload dX6_solveBy_186 rfl ?_
      refine nLast dX6_solveBy_188 (s100r u hu) (by first | omega | exact Nat.lt_of_le_of_lt (Nat.mod_le _ _) (by omega)) (by decide) ?_
      refine aX_aload_n dX6_solveBy_189 rfl ?_
      refine aX_bipush (v := nI 21) dX6_solveBy_190 (by decide) ?_
      refine aX_lload dX6_solveBy_192 rfl ?_
      refine aX_lload_n dX6_solveBy_194 rfl ?_
      refine cSp (As := [.long (lZ (ev)), .long (lN (p))]) (st := [.int (nI (21)), .ref (101 + u)]) (v := .long (lN ((ev % p).toNat))) dX6_solveBy_195 kX6_solveBy_76 aEok0 rfl rfl (Nat.le_of_ble_eq_true rfl) (c_fmodL (by omega) (by omega) (by omega) (by omega)) ?_
      refine nLast dX6_solveBy_198 (s100r u hu) (by first | omega | exact Nat.lt_of_le_of_lt (Nat.mod_le _ _) (by omega)) (by decide) ?_
      refine aX_iconst (v := nI 1) dX6_solveBy_199 (by decide) ?_
      exact rZ dX6_solveBy_200 rfl (Or.inr rfl) (⟨_, rfl, fun q j g1 g2 => by rw [aU_n (by omega), aU_n (by omega)]; exact hk q j g1 g2, Or.inl ⟨rfl, fun a ha => by
            have he0 := Int.emod_nonneg ev (show (p : Int) ≠ 0 by omega)
            have he1 := Int.emod_lt_of_pos ev (show (0 : Int) < p by omega)
            obtain rfl : i = n := by omega
            by_cases e1 : a < i
            · obtain ⟨v, q1, q2, q3⟩ := hA a e1
              exact ⟨v, by rw [aU_n (by omega), aU_n (by omega)]; exact q1, q2, by unfold yU; rw [if_pos e1]; exact q3⟩
            · by_cases e2 : a = 20
              · subst e2
                exact ⟨d, by rw [aU_n (by omega), aU_s], hdp, by unfold yU; rw [if_neg e1, if_pos rfl]; exact cg_symm hdd⟩
              · have e3 : a = 21 := by omega
                subst e3
                exact ⟨_, by rw [aU_s], by omega, by unfold yU; rw [if_neg e1, if_neg (by decide), Int.toNat_of_nonneg he0]; exact cg_trans (cg_mod _ _) hev⟩⟩⟩)
    · refine aX_aload_n dX6_solveBy_138 rfl ?_
      refine aX_iload dX6_solveBy_139 rfl ?_
      refine aX_aload_n dX6_solveBy_141 rfl ?_
      refine aX_iload dX6_solveBy_142 rfl ?_
      refine nLald (v := lN (Rr i)) dX6_solveBy_144 (s100r u hu) (by first | omega | exact Nat.lt_of_le_of_lt (Nat.mod_le _ _) (by omega)) (by decide) ((hB i (Nat.le_refl _) (by omega)).1) ?_
      refine aX_lload dX6_solveBy_145 rfl ?_
      refine kMul dX6_solveBy_147 ?_
      refine aX_lload_n dX6_solveBy_148 rfl ?_
      refine kRem dX6_solveBy_149 (by exact hmm (by omega)) (by first | omega | exact Nat.lt_of_le_of_lt (Nat.mod_le _ _) (by omega)) (by first | omega | exact Nat.lt_of_le_of_lt (Nat.mod_le _ _) (by omega)) ?_
      refine nLast dX6_solveBy_150 (s100r u hu) (by first | omega | exact Nat.lt_of_le_of_lt (Nat.mod_le _ _) (by omega)) (by decide) ?_
      obtain ⟨L2, hL2⟩ : ∃ z, z = (aU L1 (101 + u) i (lN (((Rr i) * d) % p))) := ⟨_, rfl⟩
      rw [← hL2]
      have hvl : Rr i * d % p < p := Nat.mod_lt _ (by omega)
      have hbl := Int.emod_lt_of_pos (S.2.1 i) (show (0 : Int) < p by omega)
      have hbl0 := Int.emod_nonneg (S.2.1 i) (show (p : Int) ≠ 0 by omega)
      have hm2 : (S.2.1 i % p).toNat * (Rr i * d % p) < 2 ^ 63 := mul_lt62 (p := p) (by omega) hvl (by omega)
      have hml2 : (S.2.1 i % p).toNat * (Rr i * d % p) % p < p := Nat.mod_lt _ (by omega)
      have hvc : cg p ((Rr i * d % p : Nat) : Int) (X i) := cg_trans (natmod_cg _ _) (cg_trans (cg_of_eq (by push_cast; rfl)) (hB i (Nat.le_refl _) (by omega)).2.2)
      refine aX_lload dX6_solveBy_151 rfl ?_
      refine aX_aload_n dX6_solveBy_153 rfl ?_
      refine aX_get dX6_solveBy_154 lfX6_35 s77 (f77_0 hR) ?_
      refine aX_get dX6_solveBy_157 lfX6_85 s53 (f53_8 hR) ?_
      refine aX_iload dX6_solveBy_160 rfl ?_
      refine nLald (v := lZ (S.2.1 i)) dX6_solveBy_162 s75 (by first | omega | exact Nat.lt_of_le_of_lt (Nat.mod_le _ _) (by omega)) (by decide) (by show L2 75 i = _; rw [hL2, aU_n (by omega), hk 75 i (by omega) (by omega)]; exact hq.2.1 i (by omega)) ?_
      refine aX_lload_n dX6_solveBy_163 rfl ?_
      refine cSp (As := [.long (lZ (S.2.1 i)), .long (lN (p))]) (st := [.long (lZ (ev))]) (v := .long (lN (((S.2.1 i) % p).toNat))) dX6_solveBy_164 kX6_solveBy_76 aEok0 rfl rfl (Nat.le_of_ble_eq_true rfl) (c_fmodL (hbd.2.1 i (by omega)).1 (hbd.2.1 i (by omega)).2 (by omega) (by omega)) ?_
      refine aX_aload_n dX6_solveBy_167 rfl ?_
      refine aX_iload dX6_solveBy_168 rfl ?_
      refine nLald (v := lN (Rr i * d % p)) dX6_solveBy_170 (s100r u hu) (by first | omega | exact Nat.lt_of_le_of_lt (Nat.mod_le _ _) (by omega)) (by decide) (by show L2 (101 + u) i = _; rw [hL2]; exact aU_s) ?_
      refine kMul dX6_solveBy_171 ?_
      refine aX_lload_n dX6_solveBy_172 rfl ?_
      refine kRem dX6_solveBy_173 (by exact hm2) (by first | omega | exact Nat.lt_of_le_of_lt (Nat.mod_le _ _) (by omega)) (by first | omega | exact Nat.lt_of_le_of_lt (Nat.mod_le _ _) (by omega)) ?_
      refine ySub (a := ev) (b := ((((((S.2.1 i) % p).toNat) * (Rr i * d % p)) % p : Nat) : Int)) dX6_solveBy_174 (rfl) (kZ _) ?_
      refine aX_lstore (lv' := [(0, .ref 77), (1, .long (lN (p))), (3, .ref (101 + u)), (4, .long (lN (d))), (6, .int (nI (n))), (7, .long (lZ (ev - (((((((S.2.1 i) % p).toNat) * (Rr i * d % p)) % p : Nat) : Int))))), (9, .int (nI (i)))]) dX6_solveBy_175 (by decide) rfl ?_
      refine nInc (lv' := [(0, .ref 77), (1, .long (lN (p))), (3, .ref (101 + u)), (4, .long (lN (d))), (6, .int (nI (n))), (7, .long (lZ (ev - (((((((S.2.1 i) % p).toNat) * (Rr i * d % p)) % p : Nat) : Int))))), (9, .int (nI (i + 1)))]) dX6_solveBy_177 rfl rfl (by decide) rfl ?_
      refine aX_goto (tgt := 131) dX6_solveBy_180 (by decide) ?_
      exact ih (n - (i + 1)) (by omega) (i + 1) (by omega) rfl L2 _ (fun j hj => by
        by_cases e : j = i
        · subst e; exact ⟨_, by rw [hL2, aU_s], hvl, hvc⟩
        · obtain ⟨v, a, b⟩ := hA j (by omega)
          exact ⟨v, by rw [hL2, aU_n (by omega)]; exact a, b⟩) (fun j h1 h2 => by rw [hL2, aU_n (by omega)]; exact hB j (by omega) h2) (by
        have e0 : S.2.2 * dt n S.1 - sm (i + 1) (fun j => S.2.1 j * X j) = (S.2.2 * dt n S.1 - sm i (fun j => S.2.1 j * X j)) - S.2.1 i * X i := by show _ - (sm i _ + S.2.1 i * X i) = _; omega
        rw [e0]
        refine cg_sub hev (cg_trans (natmod_cg _ _) ?_)
        push_cast
        exact cg_mul (by rw [Int.toNat_of_nonneg hbl0]; exact cg_mod _ _) (by have := hvc; push_cast at this; exact this)) (by omega) (by omega) (fun q j g1 g2 => by rw [hL2, aU_n (by omega)]; exact hk q j g1 g2)
theorem sm_low0 {i m : Nat} {f : Nat → Int} (h : m ≤ i + 1) : sm m (fun a => if i < a then f a else 0) = 0 := sm_z (fun a ha => by rw [if_neg (by omega)])
theorem sb_cg {p n i : Nat} {W : Nx} {Rr : Nat → Nat} : cg p ((W i n : Int) - sm n (fun a => if i < a then ((W i a * Rr a % p : Nat) : Int) else 0)) ((W i n : Int) - sm n (fun j => if i < j then (W i j : Int) * Rr j else 0)) := by
  refine cg_sub (cg_refl _ _) (sm_cg (fun j _ => ?_))
  by_cases g : i < j
  · rw [if_pos g, if_pos g]; exact cg_trans (natmod_cg _ _) (cg_of_eq (by push_cast; rfl))
  · rw [if_neg g, if_neg g]; exact cg_refl _ _
theorem wk_of {L L1 : Nat → Nat → Int64} {W : Nx} {n u : Nat} (h : wk L W n) (hk : ∀ q j, q ≠ 101 + u → L1 q j = L q j) (hn : n ≤ 20 := by omega) : wk L1 W n := fun i j hi hj => by rw [hk _ _ (by omega)]; exact h i j hi hj
set_option maxHeartbeats 1000000 in
theorem l_sbBack {I : Nat → Nat → Int32} {L : Nat → Nat → Int64} {R : Nat → Nat → Option Nat} (hR : aRf R) {S : jQt} {n : Nat} (hn : I 53 4 = nI n) (hn20 : n ≤ 20) {p : Nat} (hp : 2 ≤ p) (hp2 : p ≤ 1073741824) {u : Nat} (hu : u < 11) (hq : qRep L S) (hbd : sBd S n) {X : Nat → Int} (hXn : X n = - dt n S.1) {W : Nx} {d : Nat} (hw : wk L W n) (he : eIn p n S.1 X W d n) (hdp : d < p) : ∀ (k9 c : Nat), c ≤ n → c = k9 → ∀ (L1 : Nat → Nat → Int64) (Rr : Nat → Nat), (∀ j, c ≤ j → j < n → L1 (101 + u) j = lN (Rr j) ∧ Rr j < p ∧ cg p ((Rr j : Int) * d) (X j)) → (∀ q j, q ≠ 101 + u → L1 q j = L q j) → aX mX6_solveBy aE0 (sh0, I, L1, R) 36 [(0, .ref 77), (1, .long (lN (p))), (3, .ref (101 + u)), (4, .long (lN (d))), (6, .int (nI (n))), (7, .int (jDn c))] [] 0 0 (fun ans h' => ∃ L', h' = (sh0, I, L', R) ∧ (∀ q j, (q < 80 ∨ 99 < q) → q ≠ 101 + u → L' q j = L q j) ∧ ((ans = some (.int (nI 1)) ∧ rmOk L' (101 + u) p n (yU n X (dt n S.1) (S.2.2 * dt n S.1 - sm n (fun i => S.2.1 i * X i)))) ∨ (ans = some (.int (nI 0)) ∧ cg p (dt n S.1) 0))) := by
  intro k9
  induction k9 using Nat.strongRecOn with
  | _ k9 ih =>
    intro c hi hk9 L1  Rr  hB hk
    have hcz0 := Int.emod_nonneg S.2.2 (show (p : Int) ≠ 0 by omega)
    have hcz1 := Int.emod_lt_of_pos S.2.2 (show (0 : Int) < p by omega)
    have hmc : (S.2.2 % p).toNat * d < 2 ^ 63 := mul_lt62 (p := p) (by omega) hdp (by omega)
    cases c with
    | zero =>
      refine aX_iload dX6_solveBy_36 rfl ?_
      refine aX_if_lt (tgt := 110) dX6_solveBy_38 (by decide) (fun c1 => ?_) (fun c1 => ?_)
      · refine aX_aload_n dX6_solveBy_110 rfl ?_
        refine aX_get dX6_solveBy_111 lfX6_35 s77 (f77_0 hR) ?_
        refine aX_get (v := .long (lZ (S.2.2))) dX6_solveBy_114 lfX6_81 s53 (congrArg Value.long ((hk 53 6 (by omega)).trans hq.2.2)) ?_
        refine aX_lload_n dX6_solveBy_117 rfl ?_
        refine cSp (As := [.long (lZ (S.2.2)), .long (lN (p))]) (st := []) (v := .long (lN ((S.2.2 % p).toNat))) dX6_solveBy_118 kX6_solveBy_76 aEok0 rfl rfl (Nat.le_of_ble_eq_true rfl) (c_fmodL hbd.2.2.1 hbd.2.2.2 (by omega) (by omega)) ?_
        refine aX_lload dX6_solveBy_121 rfl ?_
        refine kMul dX6_solveBy_123 ?_
        refine aX_lload_n dX6_solveBy_124 rfl ?_
        refine kRem dX6_solveBy_125 (by exact hmc) (by first | omega | exact Nat.lt_of_le_of_lt (Nat.mod_le _ _) (by omega)) (by first | omega | exact Nat.lt_of_le_of_lt (Nat.mod_le _ _) (by omega)) ?_
        refine aX_lstore (lv' := [(0, .ref 77), (1, .long (lN (p))), (3, .ref (101 + u)), (4, .long (lN (d))), (6, .int (nI (n))), (7, .long (lN ((((S.2.2 % p).toNat) * d) % p)))]) dX6_solveBy_126 (by decide) rfl ?_
        refine aX_iconst (v := nI 0) dX6_solveBy_128 (by decide) ?_
        refine aX_istore (lv' := [(0, .ref 77), (1, .long (lN (p))), (3, .ref (101 + u)), (4, .long (lN (d))), (6, .int (nI (n))), (7, .long (lN ((((S.2.2 % p).toNat) * d) % p))), (9, .int (nI (0)))]) dX6_solveBy_129 (by decide) rfl ?_
        have hc0 := Int.emod_nonneg S.2.2 (show (p : Int) ≠ 0 by omega)
        have hc1 := Int.emod_lt_of_pos S.2.2 (show (0 : Int) < p by omega)
        rw [kZ ((S.2.2 % p).toNat * d % p)]
        have hel : (S.2.2 % p).toNat * d % p < p := Nat.mod_lt _ (by omega)
        refine aX_mono (l_sbEn hR hn hn20 hp hp2 hu hq hbd hdp (eIn_done he) (Rr := Rr) _ 0 (by omega) rfl L1 _ (fun j hj => by omega) (fun j _ h2 => hB j (by omega) h2) (by
          refine cg_trans (natmod_cg _ _) ?_
          push_cast
          rw [Int.toNat_of_nonneg hc0]
          show cg _ _ (S.2.2 * dt n S.1 - 0)
          rw [Int.sub_zero]
          exact cg_mul (cg_mod _ _) (cg_symm (eIn_done he))) (by omega) (by omega) (fun q j _ g => hk q j g)) (fun ans h' hq9 => ?_)
        obtain ⟨L5, g1, g2, g3⟩ := hq9
        exact ⟨L5, g1, g2, g3.elim Or.inl False.elim⟩
      · exact absurd (by decide) c1
    | succ c =>
      refine aX_iload dX6_solveBy_36 rfl ?_
      refine aX_if_lt (tgt := 110) dX6_solveBy_38 (by decide) (fun c2 => ?_) (fun c2 => ?_)
      · exact absurd c2 (nI_pos (by omega))
      · refine aX_aload_n dX6_solveBy_41 rfl ?_
        refine aX_get dX6_solveBy_42 lfX6_19 s77 (f77_2 hR) ?_
        refine aX_iload dX6_solveBy_45 rfl ?_
        refine nAald (r := 80 + c) dX6_solveBy_47 s79 (by decide) (by first | omega | exact Nat.lt_of_le_of_lt (Nat.mod_le _ _) (by omega)) (by decide) (r79 hR c (by omega)) ?_
        refine aX_iload dX6_solveBy_48 rfl ?_
        refine nLald (v := lN (W c n)) dX6_solveBy_50 (s79r c (by omega)) (by first | omega | exact Nat.lt_of_le_of_lt (Nat.mod_le _ _) (by omega)) (by decide) ((wk_of hw hk) c n (by omega) (by omega)) ?_
        refine aX_lstore (lv' := [(0, .ref 77), (1, .long (lN (p))), (3, .ref (101 + u)), (4, .long (lN (d))), (6, .int (nI (n))), (7, .int (nI (c))), (8, .long (lN (W c n)))]) dX6_solveBy_51 (by decide) rfl ?_
        refine aX_iload dX6_solveBy_53 rfl ?_
        refine aX_iconst (v := nI 1) dX6_solveBy_55 (by decide) ?_
        refine nAdd dX6_solveBy_56 ?_
        refine aX_istore (lv' := [(0, .ref 77), (1, .long (lN (p))), (3, .ref (101 + u)), (4, .long (lN (d))), (6, .int (nI (n))), (7, .int (nI (c))), (8, .long (lN (W c n))), (10, .int (nI (c + 1)))]) dX6_solveBy_57 (by decide) rfl ?_
        have hcw := he.2.2.2.2 c n (by omega) (by omega)
        rw [kZ (W c n)]
        refine l_sbIn hR hn hn20 hp hp2 hu (wk_of hw hk) he.2.2.2.2 (i := c) (by omega) (Rr := Rr) (fun j h1 h2 => ⟨(hB j (by omega) h2).1, (hB j (by omega) h2).2.1⟩) (fun v hv hv1 hv2 => ?_) _ (c + 1) (by omega) rfl _ (by omega) (by rw [sm_low0 (Nat.le_refl _)]; omega) (by omega) (by omega)
        refine aX_aload_n dX6_solveBy_94 rfl ?_
        refine aX_iload dX6_solveBy_95 rfl ?_
        refine aX_lload dX6_solveBy_97 rfl ?_
        refine aX_lload_n dX6_solveBy_99 rfl ?_
        refine cSp (As := [.long (lZ (v)), .long (lN (p))]) (st := [.int (nI (c)), .ref (101 + u)]) (v := .long (lN ((v % p).toNat))) dX6_solveBy_100 kX6_solveBy_76 aEok0 rfl rfl (Nat.le_of_ble_eq_true rfl) (c_fmodL (by omega) (by omega) (by omega) (by omega)) ?_
        refine nLast dX6_solveBy_103 (s100r u hu) (by first | omega | exact Nat.lt_of_le_of_lt (Nat.mod_le _ _) (by omega)) (by decide) ?_
        obtain ⟨L2, hL2⟩ : ∃ z, z = (aU L1 (101 + u) c (lN ((v % p).toNat))) := ⟨_, rfl⟩
        rw [← hL2]
        have hv0 := Int.emod_nonneg v (show (p : Int) ≠ 0 by omega)
        have hvl := Int.emod_lt_of_pos v (show (0 : Int) < p by omega)
        have hcg : cg p ((((v % p).toNat : Nat) : Int) * d) (X c) := by
          refine eIn_back he hXn (R := Rr) (by omega) (fun j h1 h2 => (hB j (by omega) h2).2.2) ?_
          rw [Int.toNat_of_nonneg hv0]
          refine cg_trans (cg_mod _ _) ?_
          rw [hv]; exact sb_cg
        refine aX_iinc (v := (nI (c)) + (-1)) (lv' := [(0, .ref 77), (1, .long (lN (p))), (3, .ref (101 + u)), (4, .long (lN (d))), (6, .int (nI (n))), (7, .int ((nI (c)) + (-1))), (8, .long (lZ (v))), (10, .int (nI (n)))]) dX6_solveBy_104 rfl rfl (by decide) rfl ?_
        refine aX_goto (tgt := 36) dX6_solveBy_107 (by decide) ?_
        refine aX_lv (lv' := [(0, .ref 77), (1, .long (lN (p))), (3, .ref (101 + u)), (4, .long (lN (d))), (6, .int (nI (n))), (7, .int ((nI (c)) + (-1)))]) [0, 1, 2, 3, 4, 5] rfl ?_
        refine aX_lv (lv' := [(0, .ref 77), (1, .long (lN (p))), (3, .ref (101 + u)), (4, .long (lN (d))), (6, .int (nI (n))), (7, .int (jDn c))]) [0, 1, 2, 3, 4, 5] (by rw [← jDn_dec]; rfl) ?_
        exact ih c (by omega) c (by omega) rfl L2 (va_up Rr c (v % p).toNat) (fun j h1 h2 => by
          by_cases e : j = c
          · subst e; rw [hL2, aU_s]
            rw [show va_up Rr j (v % p).toNat j = (v % p).toNat by simp [va_up]]
            exact ⟨rfl, by omega, hcg⟩
          · rw [hL2, aU_n (by omega), show va_up Rr c (v % p).toNat j = Rr j by simp [va_up, e]]
            exact hB j (by omega) h2) (fun q j g => by rw [hL2, aU_n (by omega)]; exact hk q j g)
set_option maxHeartbeats 1000000 in
theorem c_solveBy {I : Nat → Nat → Int32} {L : Nat → Nat → Int64} {R : Nat → Nat → Option Nat} (hR : aRf R) {S : jQt} {n : Nat} (hn : I 53 4 = nI n) (hn20 : n ≤ 20) {p : Nat} (hp : 2 ≤ p) (hp2 : p ≤ 1073741824) {u : Nat} (hu : u < 11) (hq : qRep L S) (hbd : sBd S n) {X : Nat → Int} (hP : isP p) (hXn : X n = - dt n S.1) (hX : ∀ i, i < n → sm n (fun j => S.1 i j * X j) + S.2.1 i * X n = 0) : aM mX6_solveBy [.ref 77, .long (lN p), .ref (101 + u)] (sh0, I, L, R) (fun ans h' => ∃ L', h' = (sh0, I, L', R) ∧ (∀ q j, (q < 80 ∨ 99 < q) → q ≠ 101 + u → L' q j = L q j) ∧ ((ans = some (.int (nI 1)) ∧ rmOk L' (101 + u) p n (yU n X (dt n S.1) (S.2.2 * dt n S.1 - sm n (fun i => S.2.1 i * X i)))) ∨ (ans = some (.int (nI 0)) ∧ cg p (dt n S.1) 0))) := by
  refine aM_of plX6_solveBy (Nat.le_of_ble_eq_true rfl) ?_
  refine aX_aload_n dX6_solveBy_0 rfl ?_
  refine aX_lload_n dX6_solveBy_1 rfl ?_
  refine cV (As := [.long (lN (p))]) (st := []) dX6_solveBy_2 kX6_solveBy_69 s77 aEok0 rfl rfl (Nat.le_of_ble_eq_true rfl) (c_load hR hn hn20 hq hbd hp hp2) (fun ans' h' hq9 => ?_)
  obtain ⟨rfl, L2, rfl, hw2, hl2⟩ := hq9
  refine ⟨rfl, ?_⟩
  have he2 : eIn p n S.1 X (ldW S p n) 1 0 := eIn_start (b := S.2.1) hX (fun i j hi hj => by
    unfold ldW; rw [if_pos hj, Int.toNat_of_nonneg (Int.emod_nonneg _ (by omega))]; exact cg_mod _ _) (fun i hi => by
    unfold ldW; rw [if_neg (Nat.lt_irrefl n), Int.toNat_of_nonneg (Int.emod_nonneg _ (by omega))]; exact cg_mod _ _) (fun i j hi hj => by
    unfold ldW
    have a1 := Int.emod_lt_of_pos (S.1 i j) (show (0 : Int) < p by omega)
    have a2 := Int.emod_lt_of_pos (S.2.1 i) (show (0 : Int) < p by omega)
    split <;> omega)
  refine aX_aload_n dX6_solveBy_5 rfl ?_
  refine aX_lload_n dX6_solveBy_6 rfl ?_
  refine cV (As := [.long (lN (p))]) (st := []) dX6_solveBy_7 kX6_solveBy_72 s77 aEok0 rfl rfl (Nat.le_of_ble_eq_true rfl) (c_eliminate hR hn hn20 hp hp2 hP hw2 he2) (fun ans' h' hq9 => ?_)
  obtain ⟨d, L3, rfl, rfl, hl3, hdp, hor⟩ := hq9
  refine ⟨rfl, ?_⟩
  have hl4 := lK_trans hl2 hl3
  refine aX_lstore (lv' := [(0, .ref 77), (1, .long (lN (p))), (3, .ref (101 + u)), (4, .long (lN (d)))]) dX6_solveBy_10 (by decide) rfl ?_
  refine aX_lload dX6_solveBy_12 rfl ?_
  refine aX_lconst (v := lN 0) dX6_solveBy_14 rfl ?_
  refine aX_lcmp dX6_solveBy_15 ?_
  refine kIf_ne (tgt := 21) dX6_solveBy_16 (by decide) (by first | omega | exact Nat.lt_of_le_of_lt (Nat.mod_le _ _) (by omega)) (by first | omega | exact Nat.lt_of_le_of_lt (Nat.mod_le _ _) (by omega)) (fun c1 => ?_) (fun c1 => ?_)
  · have hd0 : d ≠ 0 := c1
    obtain ⟨W, hw, he⟩ := hor.resolve_left (fun z => hd0 z.1)
    refine aX_aload_n dX6_solveBy_21 rfl ?_
    refine aX_get dX6_solveBy_22 lfX6_35 s77 (f77_0 hR) ?_
    refine aX_get (v := .int (nI (n))) dX6_solveBy_25 lfX6_56 s53 (congrArg Value.int (hn)) ?_
    refine aX_istore (lv' := [(0, .ref 77), (1, .long (lN (p))), (3, .ref (101 + u)), (4, .long (lN (d))), (6, .int (nI (n)))]) dX6_solveBy_28 (by decide) rfl ?_
    refine aX_iload dX6_solveBy_30 rfl ?_
    refine aX_iconst (v := nI 1) dX6_solveBy_32 (by decide) ?_
    refine aX_isub dX6_solveBy_33 ?_
    rw [jDn_sub]
    refine aX_istore (lv' := [(0, .ref 77), (1, .long (lN (p))), (3, .ref (101 + u)), (4, .long (lN (d))), (6, .int (nI (n))), (7, .int (jDn n))]) dX6_solveBy_34 (by decide) rfl ?_
    have hq3 : qRep L3 S := ⟨fun i j hi hj => (hl4 _ _ (by omega)).trans (hq.1 i j hi hj), fun i hi => (hl4 _ _ (by omega)).trans (hq.2.1 i hi), (hl4 _ _ (by omega)).trans hq.2.2⟩
    refine aX_mono (l_sbBack hR hn hn20 hp hp2 hu hq3 hbd hXn hw he hdp _ n (Nat.le_refl _) rfl L3 (fun _ => 0) (fun j h1 h2 => by omega) (fun _ _ _ => rfl)) (fun ans h' hq9 => ?_)
    obtain ⟨L5, g1, g2, g3⟩ := hq9
    exact ⟨L5, g1, fun q j a b => (g2 q j a b).trans (hl4 q j a), g3⟩
  · refine aX_iconst (v := nI 0) dX6_solveBy_19 (by decide) ?_
    exact rZ dX6_solveBy_20 rfl (Or.inl rfl) (⟨L3, rfl, fun q j g _ => hl4 q j g, Or.inr ⟨rfl, by
        rcases hor with z | ⟨W, hw, he⟩
        · exact z.2
        · have z := eIn_done he; rw [show d = 0 by omega] at z; exact z⟩⟩)
