/-! THE REFERENCE: divide -/
def dvK (I I' : Nat → Nat → Int32) : Prop := ∀ q j, ¬ (q = 159 ∧ (j = 12 ∨ j = 13 ∨ j = 14 ∨ j = 21)) → ¬ (171 ≤ q ∧ q ≤ 178) → I' q j = I q j
theorem dvK_trans {I I1 I2 : Nat → Nat → Int32} (h : dvK I I1) (k : dvK I1 I2) : dvK I I2 := fun q j a b => (k q j a b).trans (h q j a b)
def rBv (o : Option Nat) : Int32 := match o with
  | none => -9
  | some b => nI b
set_option maxHeartbeats 1000000 in
theorem ml_at {I : Nat → Nat → Int32} {L : Nat → Nat → Int64} {R : Nat → Nat → Option Nat} (hR : aRf R) {s : jN} (ho : jOk s) {l : List Nat} {i : Nat} (hi : i < 2 * s.1) (htk : tkOk I s l i) {Q : Option Value → aH → Prop} (kk : ∀ (a : Nat), a ≤ l.length → (∀ j x, j < a → l[j]? = some x → x < tk s i) → (∀ j x, a ≤ j → l[j]? = some x → tk s i ≤ x) → aX mX11_divide aE0 (sh0, I, L, R) 76 [(0, .ref 159), (1, .int (nI l.length)), (2, .int (nI i)), (3, .int (nI (tk s i))), (4, .int (nI a))] [] 0 0 Q) : ∀ (k9 a : Nat), a ≤ l.length → l.length - a = k9 → (∀ j x, j < a → l[j]? = some x → x < tk s i) → aX mX11_divide aE0 (sh0, I, L, R) 53 [(0, .ref 159), (1, .int (nI (l.length))), (2, .int (nI (i))), (3, .int (nI (tk s i))), (4, .int (nI (a)))] [] 0 0 Q := by
  intro k9
  induction k9 using Nat.strongRecOn with
  | _ k9 ih =>
    intro a hal hk9  hlo
    have hn := ho.1
    have hll := htk.2.2.2
    have htl := tk_le ho hi
    refine aX_iload dX11_divide_53 rfl ?_
    refine aX_iload_n dX11_divide_55 rfl ?_
    refine nGe (tgt := 76) dX11_divide_56 (by decide) (by first | omega | exact Nat.lt_of_le_of_lt (Nat.mod_le _ _) (by omega)) (by first | omega | exact Nat.lt_of_le_of_lt (Nat.mod_le _ _) (by omega)) (fun c1 => ?_) (fun c1 => ?_)
    · exact kk a (by omega) hlo (fun j x h1 h2 => by have := (List.getElem?_eq_some_iff.mp h2).1; omega)
    · obtain ⟨y, hy⟩ : ∃ y, l[a]? = some y := ⟨_, List.getElem?_eq_getElem c1⟩
      have hy9 : y ≤ 9999 := by
        obtain ⟨j, h1, h2⟩ := (htk.2.2.1 y).mp (List.mem_of_getElem? hy)
        rw [h2]; exact tk_le ho (by omega)
      refine aX_aload_n dX11_divide_59 rfl ?_
      refine aX_get dX11_divide_60 lfX11_72 s159 (f159_23 hR) ?_
      refine aX_iload dX11_divide_63 rfl ?_
      refine nIald (v := nI (y)) dX11_divide_65 s178 (by first | omega | exact Nat.lt_of_le_of_lt (Nat.mod_le _ _) (by omega)) (by decide) (htk.1 a y hy) ?_
      refine aX_iload_n dX11_divide_66 rfl ?_
      refine nGe (tgt := 76) dX11_divide_67 (by decide) (by first | omega | exact Nat.lt_of_le_of_lt (Nat.mod_le _ _) (by omega)) (by first | omega | exact Nat.lt_of_le_of_lt (Nat.mod_le _ _) (by omega)) (fun c2 => ?_) (fun c2 => ?_)
      · exact kk a (by omega) hlo (fun j x h1 h2 => by
          by_cases e : j = a
          · rw [e, hy] at h2; injection h2 with h2; omega
          · have := sorted_lt htk.2.1 (show a < j by omega) hy h2; omega)
      · refine nInc (lv' := [(0, .ref 159), (1, .int (nI (l.length))), (2, .int (nI (i))), (3, .int (nI (tk s i))), (4, .int (nI (a + 1)))]) dX11_divide_70 rfl rfl (by decide) rfl ?_
        refine aX_goto (tgt := 53) dX11_divide_73 (by decide) ?_
        exact ih (l.length - (a + 1)) (by omega) (a + 1) (by omega) rfl (fun j x h1 h2 => by
          by_cases e : j = a
          · rw [e, hy] at h2; injection h2 with h2; omega
          · exact hlo j x (by omega) h2)
set_option maxHeartbeats 1000000 in
theorem ml_shift {I : Nat → Nat → Int32} {L : Nat → Nat → Int64} {R : Nat → Nat → Option Nat} (hR : aRf R) {n i v a : Nat} (hn : n < 32) (hi : i < 32) (hv31 : v < 2 ^ 31) (han : a ≤ n) {Q : Option Value → aH → Prop} (kk : ∀ (I2 : Nat → Nat → Int32), (∀ j, I2 178 j = if a < j ∧ j ≤ n then I 178 (j - 1) else I 178 j) → (∀ q j, q ≠ 178 → I2 q j = I q j) → aX mX11_divide aE0 (sh0, I2, L, R) 125 [(0, .ref 159), (1, .int (nI n)), (2, .int (nI i)), (3, .int (nI v)), (4, .int (nI a)), (5, .int (nI a))] [] 0 0 Q) : ∀ (k9 c : Nat), a ≤ c → c ≤ n → c - a = k9 → ∀ (I1 : Nat → Nat → Int32), (∀ j, I1 178 j = if c < j ∧ j ≤ n then I 178 (j - 1) else I 178 j) → (∀ q j, q ≠ 178 → I1 q j = I q j) → aX mX11_divide aE0 (sh0, I1, L, R) 96 [(0, .ref 159), (1, .int (nI (n))), (2, .int (nI (i))), (3, .int (nI (v))), (4, .int (nI (a))), (5, .int (nI (c)))] [] 0 0 Q := by
  intro k9
  induction k9 using Nat.strongRecOn with
  | _ k9 ih =>
    intro c hac hcn hk9 I1 hv hk
    refine aX_iload dX11_divide_96 rfl ?_
    refine aX_iload dX11_divide_98 rfl ?_
    refine nLe (tgt := 125) dX11_divide_100 (by decide) (by first | omega | exact Nat.lt_of_le_of_lt (Nat.mod_le _ _) (by omega)) (by first | omega | exact Nat.lt_of_le_of_lt (Nat.mod_le _ _) (by omega)) (fun c1 => ?_) (fun c1 => ?_)
    · obtain rfl : a = c := by omega
      exact kk I1 hv hk
    · obtain ⟨d, rfl⟩ : ∃ d, c = d + 1 := ⟨c - 1, by omega⟩
      refine aX_aload_n dX11_divide_103 rfl ?_
      refine aX_get dX11_divide_104 lfX11_72 s159 (f159_23 hR) ?_
      refine aX_iload dX11_divide_107 rfl ?_
      refine aX_aload_n dX11_divide_109 rfl ?_
      refine aX_get dX11_divide_110 lfX11_72 s159 (f159_23 hR) ?_
      refine aX_iload dX11_divide_113 rfl ?_
      refine aX_iconst (v := nI 1) dX11_divide_115 (by decide) ?_
      refine nSub dX11_divide_116 (by first | omega | exact Nat.lt_of_le_of_lt (Nat.mod_le _ _) (by omega)) ?_
      refine nIald (v := I1 178 ((d + 1) - 1)) dX11_divide_117 s178 (by first | omega | exact Nat.lt_of_le_of_lt (Nat.mod_le _ _) (by omega)) (by decide) (rfl) ?_
      refine nIast dX11_divide_118 s178 (by first | omega | exact Nat.lt_of_le_of_lt (Nat.mod_le _ _) (by omega)) (by decide) ?_
      refine nDec (lv' := [(0, .ref 159), (1, .int (nI (n))), (2, .int (nI (i))), (3, .int (nI (v))), (4, .int (nI (a))), (5, .int (nI (d)))]) dX11_divide_119 rfl rfl (by decide) rfl ?_
      refine aX_goto (tgt := 96) dX11_divide_122 (by decide) ?_
      exact ih (d - a) (by omega) d (by omega) (by omega) rfl _ (fun j => by
        by_cases e : j = d + 1
        · subst e; rw [aU_s, if_pos (by omega), hv (d + 1 - 1), if_neg (by omega)]
        · rw [aU_n (by omega), hv j]
          by_cases g : d + 1 < j ∧ j ≤ n
          · rw [if_pos g, if_pos (by omega)]
          · rw [if_neg g, if_neg (by omega)]) (fun q j g => by rw [aU_n (by omega)]; exact hk q j g)
set_option maxHeartbeats 1000000 in
theorem ml_ticks {I : Nat → Nat → Int32} {L : Nat → Nat → Int64} {R : Nat → Nat → Option Nat} (hR : aRf R) {s : jN} (ho : jOk s) {Q : Option Value → aH → Prop} (kk : ∀ (I2 : Nat → Nat → Int32) (l : List Nat), tkOk I2 s l (2 * s.1) → (∀ q j, q ≠ 178 → I2 q j = I q j) → aX mX11_divide aE0 (sh0, I2, L, R) 142 [(0, .ref 159), (1, .int (nI l.length)), (2, .int (nI (2 * s.1)))] [] 0 0 Q) : ∀ (k9 i : Nat), i ≤ 2 * s.1 → (2 * s.1) - i = k9 → ∀ (I1 : Nat → Nat → Int32) (l : List Nat), mnRep I1 s → tkOk I1 s l i → (∀ q j, q ≠ 178 → I1 q j = I q j) → aX mX11_divide aE0 (sh0, I1, L, R) 14 [(0, .ref 159), (1, .int (nI (l.length))), (2, .int (nI (i)))] [] 0 0 Q := by
  intro k9
  induction k9 using Nat.strongRecOn with
  | _ k9 ih =>
    intro i hi hk9 I1  l  hs htk hk
    have hn := ho.1
    have hll := htk.2.2.2
    refine aX_iload_n dX11_divide_14 rfl ?_
    refine aX_iconst (v := nI 2) dX11_divide_15 (by decide) ?_
    refine aX_aload_n dX11_divide_16 rfl ?_
    refine aX_get (v := .int (nI (s.1))) dX11_divide_17 lfX11_150 s159 (congrArg Value.int (hs.1)) ?_
    refine nMul dX11_divide_20 ?_
    refine nGe (tgt := 142) dX11_divide_21 (by decide) (by first | omega | exact Nat.lt_of_le_of_lt (Nat.mod_le _ _) (by omega)) (by first | omega | exact Nat.lt_of_le_of_lt (Nat.mod_le _ _) (by omega)) (fun c1 => ?_) (fun c1 => ?_)
    · obtain rfl : i = 2 * s.1 := by omega
      exact kk I1 l htk hk
    · have hi2 : i / 2 < s.1 := by omega
      have htl := tk_le ho c1
      refine aX_iload_n dX11_divide_24 rfl ?_
      refine aX_iconst (v := nI 2) dX11_divide_25 (by decide) ?_
      refine nRem dX11_divide_26 (by first | omega | exact Nat.lt_of_le_of_lt (Nat.mod_le _ _) (by omega)) (by first | omega | exact Nat.lt_of_le_of_lt (Nat.mod_le _ _) (by omega)) (by first | omega | exact Nat.lt_of_le_of_lt (Nat.mod_le _ _) (by omega)) ?_
      refine nIf_ne (tgt := 41) dX11_divide_27 (by decide) (by first | omega | exact Nat.lt_of_le_of_lt (Nat.mod_le _ _) (by omega)) (fun c2 => ?_) (fun c2 => ?_)
      · have htke : tk s i = s.2.2.2.1 (i / 2) := by unfold tk; rw [if_neg (by omega)]
        refine aX_aload_n dX11_divide_41 rfl ?_
        refine aX_get dX11_divide_42 lfX11_16 s159 (f159_3 hR) ?_
        refine aX_iload_n dX11_divide_45 rfl ?_
        refine aX_iconst (v := nI 2) dX11_divide_46 (by decide) ?_
        refine nDiv dX11_divide_47 (by first | omega | exact Nat.lt_of_le_of_lt (Nat.mod_le _ _) (by omega)) (by first | omega | exact Nat.lt_of_le_of_lt (Nat.mod_le _ _) (by omega)) (by first | omega | exact Nat.lt_of_le_of_lt (Nat.mod_le _ _) (by omega)) ?_
        refine nIald (v := nI (s.2.2.2.1 (i / 2))) dX11_divide_48 s162 (by first | omega | exact Nat.lt_of_le_of_lt (Nat.mod_le _ _) (by omega)) (by decide) ((hs.2 (i / 2) hi2).2.2.1) ?_
        refine aX_istore_n (lv' := [(0, .ref 159), (1, .int (nI (l.length))), (2, .int (nI (i))), (3, .int (nI (s.2.2.2.1 (i / 2))))]) dX11_divide_49 (by decide) rfl ?_
        refine aX_iconst (v := nI 0) dX11_divide_50 (by decide) ?_
        refine aX_istore (lv' := [(0, .ref 159), (1, .int (nI (l.length))), (2, .int (nI (i))), (3, .int (nI (s.2.2.2.1 (i / 2)))), (4, .int (nI (0)))]) dX11_divide_51 (by decide) rfl ?_
        refine aX_lv (lv' := [(0, .ref 159), (1, .int (nI l.length)), (2, .int (nI i)), (3, .int (nI (tk s i))), (4, .int (nI 0))]) [0, 1, 2, 3, 4] (by rw [htke]; rfl) ?_
        refine ml_at hR ho (by omega) htk (fun a ha hlo hhi => ?_) _ 0 (by omega) rfl (fun j x h _ => by omega)
        refine aX_iload dX11_divide_76 rfl ?_
        refine aX_iload_n dX11_divide_78 rfl ?_
        refine nEq (tgt := 93) dX11_divide_79 (by decide) (by first | omega | exact Nat.lt_of_le_of_lt (Nat.mod_le _ _) (by omega)) (by first | omega | exact Nat.lt_of_le_of_lt (Nat.mod_le _ _) (by omega)) (fun c1 => ?_) (fun c1 => ?_)
        · have hgt : ∀ j x, a ≤ j → l[j]? = some x → tk s i < x := fun j x h1 h2 => by have := (List.getElem?_eq_some_iff.mp h2).1; omega
          refine aX_iload_n dX11_divide_93 rfl ?_
          refine aX_istore (lv' := [(0, .ref 159), (1, .int (nI (l.length))), (2, .int (nI (i))), (3, .int (nI (tk s i))), (4, .int (nI (a))), (5, .int (nI (l.length)))]) dX11_divide_94 (by decide) rfl ?_
          refine ml_shift hR (n := l.length) (by omega) (by omega) (by omega) ha (fun I2 hv2 hk2 => ?_) _ l.length ha (Nat.le_refl _) rfl I1 (fun j => by rw [if_neg (by omega)]) (fun _ _ _ => rfl)
          refine aX_aload_n dX11_divide_125 rfl ?_
          refine aX_get dX11_divide_126 lfX11_72 s159 (f159_23 hR) ?_
          refine aX_iload dX11_divide_129 rfl ?_
          refine aX_iload_n dX11_divide_131 rfl ?_
          refine nIast dX11_divide_132 s178 (by first | omega | exact Nat.lt_of_le_of_lt (Nat.mod_le _ _) (by omega)) (by decide) ?_
          refine nInc (lv' := [(0, .ref 159), (1, .int (nI (l.length + 1))), (2, .int (nI (i))), (3, .int (nI (tk s i))), (4, .int (nI (a))), (5, .int (nI (a)))]) dX11_divide_133 rfl rfl (by decide) rfl ?_
          refine nInc (lv' := [(0, .ref 159), (1, .int (nI (l.length + 1))), (2, .int (nI (i + 1))), (3, .int (nI (tk s i))), (4, .int (nI (a))), (5, .int (nI (a)))]) dX11_divide_136 rfl rfl (by decide) rfl ?_
          refine aX_goto (tgt := 14) dX11_divide_139 (by decide) ?_
          refine aX_lv (lv' := [(0, .ref 159), (1, .int (nI (l.length + 1))), (2, .int (nI (i + 1)))]) [0, 1, 2] rfl ?_
          have hlen : (ins l a (tk s i)).length = l.length + 1 := ins_len ha
          rw [← hlen]
          exact ih (2 * s.1 - (i + 1)) (by omega) (i + 1) (by omega) rfl _ (ins l a (tk s i)) (mnRep_of (fun q j g => by rw [aU_n (by omega)]; exact hk2 q j (by omega)) hs) ⟨fun j x hx => by
              rcases Nat.lt_trichotomy j a with g | g | g
              · rw [ins_lt ha g] at hx
                rw [aU_n (by omega), hv2 j, if_neg (by omega)]; exact htk.1 j x hx
              · subst g
                rw [ins_eq ha] at hx
                injection hx with hx
                rw [aU_s, hx]
              · rw [ins_gt ha g] at hx
                have hjl := (List.getElem?_eq_some_iff.mp hx).1
                rw [aU_n (by omega), hv2 j, if_pos (by omega)]; exact htk.1 (j - 1) x hx, ins_sorted ha htk.2.1 hlo hgt, fun x => by
              rw [ins_mem, htk.2.2.1]
              constructor
              · rintro (⟨j, h1, h2⟩ | h)
                · exact ⟨j, by omega, h2⟩
                · exact ⟨i, by omega, h⟩
              · rintro ⟨j, h1, h2⟩
                by_cases e : j = i
                · subst e; exact Or.inr h2
                · exact Or.inl ⟨j, by omega, h2⟩, by rw [hlen]; omega⟩ (fun q j g => by rw [aU_n (by omega)]; exact (hk2 q j g).trans (hk q j g))
        · obtain ⟨y, hy⟩ : ∃ y, l[a]? = some y := ⟨_, List.getElem?_eq_getElem (by omega)⟩
          have hy9 : y ≤ 9999 := by
            obtain ⟨j, h1, h2⟩ := (htk.2.2.1 y).mp (List.mem_of_getElem? hy)
            rw [h2]; exact tk_le ho (by omega)
          refine aX_aload_n dX11_divide_82 rfl ?_
          refine aX_get dX11_divide_83 lfX11_72 s159 (f159_23 hR) ?_
          refine aX_iload dX11_divide_86 rfl ?_
          refine nIald (v := nI (y)) dX11_divide_88 s178 (by first | omega | exact Nat.lt_of_le_of_lt (Nat.mod_le _ _) (by omega)) (by decide) (htk.1 a y hy) ?_
          refine aX_iload_n dX11_divide_89 rfl ?_
          refine nEq (tgt := 136) dX11_divide_90 (by decide) (by first | omega | exact Nat.lt_of_le_of_lt (Nat.mod_le _ _) (by omega)) (by first | omega | exact Nat.lt_of_le_of_lt (Nat.mod_le _ _) (by omega)) (fun c2 => ?_) (fun c2 => ?_)
          · have hye : y = tk s i := c2
            refine nInc (lv' := [(0, .ref 159), (1, .int (nI (l.length))), (2, .int (nI (i + 1))), (3, .int (nI (tk s i))), (4, .int (nI (a)))]) dX11_divide_136 rfl rfl (by decide) rfl ?_
            refine aX_goto (tgt := 14) dX11_divide_139 (by decide) ?_
            refine aX_lv (lv' := [(0, .ref 159), (1, .int (nI (l.length))), (2, .int (nI (i + 1)))]) [0, 1, 2] rfl ?_
            exact ih (2 * s.1 - (i + 1)) (by omega) (i + 1) (by omega) rfl I1 l hs ⟨htk.1, htk.2.1, fun x => by
                rw [htk.2.2.1]
                constructor
                · rintro ⟨j, h1, h2⟩; exact ⟨j, by omega, h2⟩
                · rintro ⟨j, h1, h2⟩
                  by_cases e : j = i
                  · subst e
                    exact (htk.2.2.1 x).mp (by rw [h2, ← hye]; exact List.mem_of_getElem? hy)
                  · exact ⟨j, by omega, h2⟩, by omega⟩ hk
          · have hgt : ∀ j x, a ≤ j → l[j]? = some x → tk s i < x := fun j x h1 h2 => by
              have g1 := hhi a y (Nat.le_refl _) hy
              by_cases e : j = a
              · rw [e, hy] at h2; injection h2 with h2; omega
              · have := sorted_lt htk.2.1 (show a < j by omega) hy h2; omega
            refine aX_iload_n dX11_divide_93 rfl ?_
            refine aX_istore (lv' := [(0, .ref 159), (1, .int (nI (l.length))), (2, .int (nI (i))), (3, .int (nI (tk s i))), (4, .int (nI (a))), (5, .int (nI (l.length)))]) dX11_divide_94 (by decide) rfl ?_
            refine ml_shift hR (n := l.length) (by omega) (by omega) (by omega) ha (fun I2 hv2 hk2 => ?_) _ l.length ha (Nat.le_refl _) rfl I1 (fun j => by rw [if_neg (by omega)]) (fun _ _ _ => rfl)
            refine aX_aload_n dX11_divide_125 rfl ?_
            refine aX_get dX11_divide_126 lfX11_72 s159 (f159_23 hR) ?_
            refine aX_iload dX11_divide_129 rfl ?_
            refine aX_iload_n dX11_divide_131 rfl ?_
            refine nIast dX11_divide_132 s178 (by first | omega | exact Nat.lt_of_le_of_lt (Nat.mod_le _ _) (by omega)) (by decide) ?_
            refine nInc (lv' := [(0, .ref 159), (1, .int (nI (l.length + 1))), (2, .int (nI (i))), (3, .int (nI (tk s i))), (4, .int (nI (a))), (5, .int (nI (a)))]) dX11_divide_133 rfl rfl (by decide) rfl ?_
            refine nInc (lv' := [(0, .ref 159), (1, .int (nI (l.length + 1))), (2, .int (nI (i + 1))), (3, .int (nI (tk s i))), (4, .int (nI (a))), (5, .int (nI (a)))]) dX11_divide_136 rfl rfl (by decide) rfl ?_
            refine aX_goto (tgt := 14) dX11_divide_139 (by decide) ?_
            refine aX_lv (lv' := [(0, .ref 159), (1, .int (nI (l.length + 1))), (2, .int (nI (i + 1)))]) [0, 1, 2] rfl ?_
            have hlen : (ins l a (tk s i)).length = l.length + 1 := ins_len ha
            rw [← hlen]
            exact ih (2 * s.1 - (i + 1)) (by omega) (i + 1) (by omega) rfl _ (ins l a (tk s i)) (mnRep_of (fun q j g => by rw [aU_n (by omega)]; exact hk2 q j (by omega)) hs) ⟨fun j x hx => by
                rcases Nat.lt_trichotomy j a with g | g | g
                · rw [ins_lt ha g] at hx
                  rw [aU_n (by omega), hv2 j, if_neg (by omega)]; exact htk.1 j x hx
                · subst g
                  rw [ins_eq ha] at hx
                  injection hx with hx
                  rw [aU_s, hx]
                · rw [ins_gt ha g] at hx
                  have hjl := (List.getElem?_eq_some_iff.mp hx).1
                  rw [aU_n (by omega), hv2 j, if_pos (by omega)]; exact htk.1 (j - 1) x hx, ins_sorted ha htk.2.1 hlo hgt, fun x => by
                rw [ins_mem, htk.2.2.1]
                constructor
                · rintro (⟨j, h1, h2⟩ | h)
                  · exact ⟨j, by omega, h2⟩
                  · exact ⟨i, by omega, h⟩
                · rintro ⟨j, h1, h2⟩
                  by_cases e : j = i
                  · subst e; exact Or.inr h2
                  · exact Or.inl ⟨j, by omega, h2⟩, by rw [hlen]; omega⟩ (fun q j g => by rw [aU_n (by omega)]; exact (hk2 q j g).trans (hk q j g))
      · have htke : tk s i = s.2.2.1 (i / 2) := by unfold tk; rw [if_pos (by omega)]
        refine aX_aload_n dX11_divide_30 rfl ?_
        refine aX_get dX11_divide_31 lfX11_13 s159 (f159_2 hR) ?_
        refine aX_iload_n dX11_divide_34 rfl ?_
        refine aX_iconst (v := nI 2) dX11_divide_35 (by decide) ?_
        refine nDiv dX11_divide_36 (by first | omega | exact Nat.lt_of_le_of_lt (Nat.mod_le _ _) (by omega)) (by first | omega | exact Nat.lt_of_le_of_lt (Nat.mod_le _ _) (by omega)) (by first | omega | exact Nat.lt_of_le_of_lt (Nat.mod_le _ _) (by omega)) ?_
        refine nIald (v := nI (s.2.2.1 (i / 2))) dX11_divide_37 s161 (by first | omega | exact Nat.lt_of_le_of_lt (Nat.mod_le _ _) (by omega)) (by decide) ((hs.2 (i / 2) hi2).2.1) ?_
        refine aX_goto (tgt := 49) dX11_divide_38 (by decide) ?_
        refine aX_istore_n (lv' := [(0, .ref 159), (1, .int (nI (l.length))), (2, .int (nI (i))), (3, .int (nI (s.2.2.1 (i / 2))))]) dX11_divide_49 (by decide) rfl ?_
        refine aX_iconst (v := nI 0) dX11_divide_50 (by decide) ?_
        refine aX_istore (lv' := [(0, .ref 159), (1, .int (nI (l.length))), (2, .int (nI (i))), (3, .int (nI (s.2.2.1 (i / 2)))), (4, .int (nI (0)))]) dX11_divide_51 (by decide) rfl ?_
        refine aX_lv (lv' := [(0, .ref 159), (1, .int (nI l.length)), (2, .int (nI i)), (3, .int (nI (tk s i))), (4, .int (nI 0))]) [0, 1, 2, 3, 4] (by rw [htke]; rfl) ?_
        refine ml_at hR ho (by omega) htk (fun a ha hlo hhi => ?_) _ 0 (by omega) rfl (fun j x h _ => by omega)
        refine aX_iload dX11_divide_76 rfl ?_
        refine aX_iload_n dX11_divide_78 rfl ?_
        refine nEq (tgt := 93) dX11_divide_79 (by decide) (by first | omega | exact Nat.lt_of_le_of_lt (Nat.mod_le _ _) (by omega)) (by first | omega | exact Nat.lt_of_le_of_lt (Nat.mod_le _ _) (by omega)) (fun c1 => ?_) (fun c1 => ?_)
        · have hgt : ∀ j x, a ≤ j → l[j]? = some x → tk s i < x := fun j x h1 h2 => by have := (List.getElem?_eq_some_iff.mp h2).1; omega
          refine aX_iload_n dX11_divide_93 rfl ?_
          refine aX_istore (lv' := [(0, .ref 159), (1, .int (nI (l.length))), (2, .int (nI (i))), (3, .int (nI (tk s i))), (4, .int (nI (a))), (5, .int (nI (l.length)))]) dX11_divide_94 (by decide) rfl ?_
          refine ml_shift hR (n := l.length) (by omega) (by omega) (by omega) ha (fun I2 hv2 hk2 => ?_) _ l.length ha (Nat.le_refl _) rfl I1 (fun j => by rw [if_neg (by omega)]) (fun _ _ _ => rfl)
          refine aX_aload_n dX11_divide_125 rfl ?_
          refine aX_get dX11_divide_126 lfX11_72 s159 (f159_23 hR) ?_
          refine aX_iload dX11_divide_129 rfl ?_
          refine aX_iload_n dX11_divide_131 rfl ?_
          refine nIast dX11_divide_132 s178 (by first | omega | exact Nat.lt_of_le_of_lt (Nat.mod_le _ _) (by omega)) (by decide) ?_
          refine nInc (lv' := [(0, .ref 159), (1, .int (nI (l.length + 1))), (2, .int (nI (i))), (3, .int (nI (tk s i))), (4, .int (nI (a))), (5, .int (nI (a)))]) dX11_divide_133 rfl rfl (by decide) rfl ?_
          refine nInc (lv' := [(0, .ref 159), (1, .int (nI (l.length + 1))), (2, .int (nI (i + 1))), (3, .int (nI (tk s i))), (4, .int (nI (a))), (5, .int (nI (a)))]) dX11_divide_136 rfl rfl (by decide) rfl ?_
          refine aX_goto (tgt := 14) dX11_divide_139 (by decide) ?_
          refine aX_lv (lv' := [(0, .ref 159), (1, .int (nI (l.length + 1))), (2, .int (nI (i + 1)))]) [0, 1, 2] rfl ?_
          have hlen : (ins l a (tk s i)).length = l.length + 1 := ins_len ha
          rw [← hlen]
          exact ih (2 * s.1 - (i + 1)) (by omega) (i + 1) (by omega) rfl _ (ins l a (tk s i)) (mnRep_of (fun q j g => by rw [aU_n (by omega)]; exact hk2 q j (by omega)) hs) ⟨fun j x hx => by
              rcases Nat.lt_trichotomy j a with g | g | g
              · rw [ins_lt ha g] at hx
                rw [aU_n (by omega), hv2 j, if_neg (by omega)]; exact htk.1 j x hx
              · subst g
                rw [ins_eq ha] at hx
                injection hx with hx
                rw [aU_s, hx]
              · rw [ins_gt ha g] at hx
                have hjl := (List.getElem?_eq_some_iff.mp hx).1
                rw [aU_n (by omega), hv2 j, if_pos (by omega)]; exact htk.1 (j - 1) x hx, ins_sorted ha htk.2.1 hlo hgt, fun x => by
              rw [ins_mem, htk.2.2.1]
              constructor
              · rintro (⟨j, h1, h2⟩ | h)
                · exact ⟨j, by omega, h2⟩
                · exact ⟨i, by omega, h⟩
              · rintro ⟨j, h1, h2⟩
                by_cases e : j = i
                · subst e; exact Or.inr h2
                · exact Or.inl ⟨j, by omega, h2⟩, by rw [hlen]; omega⟩ (fun q j g => by rw [aU_n (by omega)]; exact (hk2 q j g).trans (hk q j g))
        · obtain ⟨y, hy⟩ : ∃ y, l[a]? = some y := ⟨_, List.getElem?_eq_getElem (by omega)⟩
          have hy9 : y ≤ 9999 := by
            obtain ⟨j, h1, h2⟩ := (htk.2.2.1 y).mp (List.mem_of_getElem? hy)
            rw [h2]; exact tk_le ho (by omega)
          refine aX_aload_n dX11_divide_82 rfl ?_
          refine aX_get dX11_divide_83 lfX11_72 s159 (f159_23 hR) ?_
          refine aX_iload dX11_divide_86 rfl ?_
          refine nIald (v := nI (y)) dX11_divide_88 s178 (by first | omega | exact Nat.lt_of_le_of_lt (Nat.mod_le _ _) (by omega)) (by decide) (htk.1 a y hy) ?_
          refine aX_iload_n dX11_divide_89 rfl ?_
          refine nEq (tgt := 136) dX11_divide_90 (by decide) (by first | omega | exact Nat.lt_of_le_of_lt (Nat.mod_le _ _) (by omega)) (by first | omega | exact Nat.lt_of_le_of_lt (Nat.mod_le _ _) (by omega)) (fun c2 => ?_) (fun c2 => ?_)
          · have hye : y = tk s i := c2
            refine nInc (lv' := [(0, .ref 159), (1, .int (nI (l.length))), (2, .int (nI (i + 1))), (3, .int (nI (tk s i))), (4, .int (nI (a)))]) dX11_divide_136 rfl rfl (by decide) rfl ?_
            refine aX_goto (tgt := 14) dX11_divide_139 (by decide) ?_
            refine aX_lv (lv' := [(0, .ref 159), (1, .int (nI (l.length))), (2, .int (nI (i + 1)))]) [0, 1, 2] rfl ?_
            exact ih (2 * s.1 - (i + 1)) (by omega) (i + 1) (by omega) rfl I1 l hs ⟨htk.1, htk.2.1, fun x => by
                rw [htk.2.2.1]
                constructor
                · rintro ⟨j, h1, h2⟩; exact ⟨j, by omega, h2⟩
                · rintro ⟨j, h1, h2⟩
                  by_cases e : j = i
                  · subst e
                    exact (htk.2.2.1 x).mp (by rw [h2, ← hye]; exact List.mem_of_getElem? hy)
                  · exact ⟨j, by omega, h2⟩, by omega⟩ hk
          · have hgt : ∀ j x, a ≤ j → l[j]? = some x → tk s i < x := fun j x h1 h2 => by
              have g1 := hhi a y (Nat.le_refl _) hy
              by_cases e : j = a
              · rw [e, hy] at h2; injection h2 with h2; omega
              · have := sorted_lt htk.2.1 (show a < j by omega) hy h2; omega
            refine aX_iload_n dX11_divide_93 rfl ?_
            refine aX_istore (lv' := [(0, .ref 159), (1, .int (nI (l.length))), (2, .int (nI (i))), (3, .int (nI (tk s i))), (4, .int (nI (a))), (5, .int (nI (l.length)))]) dX11_divide_94 (by decide) rfl ?_
            refine ml_shift hR (n := l.length) (by omega) (by omega) (by omega) ha (fun I2 hv2 hk2 => ?_) _ l.length ha (Nat.le_refl _) rfl I1 (fun j => by rw [if_neg (by omega)]) (fun _ _ _ => rfl)
            refine aX_aload_n dX11_divide_125 rfl ?_
            refine aX_get dX11_divide_126 lfX11_72 s159 (f159_23 hR) ?_
            refine aX_iload dX11_divide_129 rfl ?_
            refine aX_iload_n dX11_divide_131 rfl ?_
            refine nIast dX11_divide_132 s178 (by first | omega | exact Nat.lt_of_le_of_lt (Nat.mod_le _ _) (by omega)) (by decide) ?_
            refine nInc (lv' := [(0, .ref 159), (1, .int (nI (l.length + 1))), (2, .int (nI (i))), (3, .int (nI (tk s i))), (4, .int (nI (a))), (5, .int (nI (a)))]) dX11_divide_133 rfl rfl (by decide) rfl ?_
            refine nInc (lv' := [(0, .ref 159), (1, .int (nI (l.length + 1))), (2, .int (nI (i + 1))), (3, .int (nI (tk s i))), (4, .int (nI (a))), (5, .int (nI (a)))]) dX11_divide_136 rfl rfl (by decide) rfl ?_
            refine aX_goto (tgt := 14) dX11_divide_139 (by decide) ?_
            refine aX_lv (lv' := [(0, .ref 159), (1, .int (nI (l.length + 1))), (2, .int (nI (i + 1)))]) [0, 1, 2] rfl ?_
            have hlen : (ins l a (tk s i)).length = l.length + 1 := ins_len ha
            rw [← hlen]
            exact ih (2 * s.1 - (i + 1)) (by omega) (i + 1) (by omega) rfl _ (ins l a (tk s i)) (mnRep_of (fun q j g => by rw [aU_n (by omega)]; exact hk2 q j (by omega)) hs) ⟨fun j x hx => by
                rcases Nat.lt_trichotomy j a with g | g | g
                · rw [ins_lt ha g] at hx
                  rw [aU_n (by omega), hv2 j, if_neg (by omega)]; exact htk.1 j x hx
                · subst g
                  rw [ins_eq ha] at hx
                  injection hx with hx
                  rw [aU_s, hx]
                · rw [ins_gt ha g] at hx
                  have hjl := (List.getElem?_eq_some_iff.mp hx).1
                  rw [aU_n (by omega), hv2 j, if_pos (by omega)]; exact htk.1 (j - 1) x hx, ins_sorted ha htk.2.1 hlo hgt, fun x => by
                rw [ins_mem, htk.2.2.1]
                constructor
                · rintro (⟨j, h1, h2⟩ | h)
                  · exact ⟨j, by omega, h2⟩
                  · exact ⟨i, by omega, h⟩
                · rintro ⟨j, h1, h2⟩
                  by_cases e : j = i
                  · subst e; exact Or.inr h2
                  · exact Or.inl ⟨j, by omega, h2⟩, by rw [hlen]; omega⟩ (fun q j g => by rw [aU_n (by omega)]; exact (hk2 q j g).trans (hk q j g))
set_option maxHeartbeats 1000000 in
theorem ml_setIn {I : Nat → Nat → Int32} {L : Nat → Nat → Int64} {R : Nat → Nat → Option Nat} (hR : aRf R) {s : jN} (hs : mnRep I s) (ho : jOk s) {l : List Nat} {k tt : Nat} (hk : l[k]? = some tt) (hl32 : l.length ≤ 32) (htt : tt ≤ 9999) (h178 : I 178 k = nI tt) {Q : Option Value → aH → Prop} (kk : aX mX11_divide aE0 (sh0, I, L, R) 258 [(0, .ref 159), (1, .int (nI l.length)), (2, .int (nI k)), (3, .int (nI (jBt s tt s.1))), (4, .int (nI (jSnd s tt))), (5, .int (rBv (jBs s tt s.1))), (6, .int (nI s.1))] [] 0 0 Q) : ∀ (k9 i : Nat), i ≤ s.1 → s.1 - i = k9 → aX mX11_divide aE0 (sh0, I, L, R) 168 [(0, .ref 159), (1, .int (nI (l.length))), (2, .int (nI (k))), (3, .int (nI (jBt s tt i))), (4, .int (nI (jCnt (fun i => jOn s i tt) i))), (5, .int (rBv (jBs s tt i))), (6, .int (nI (i)))] [] 0 0 Q := by
  intro k9
  induction k9 using Nat.strongRecOn with
  | _ k9 ih =>
    intro i hi hk9  
    have hn := ho.1
    have hkl : k < l.length := (List.getElem?_eq_some_iff.mp hk).1
    refine aX_iload dX11_divide_168 rfl ?_
    refine aX_aload_n dX11_divide_170 rfl ?_
    refine aX_get (v := .int (nI (s.1))) dX11_divide_171 lfX11_150 s159 (congrArg Value.int (hs.1)) ?_
    refine nGe (tgt := 258) dX11_divide_174 (by decide) (by first | omega | exact Nat.lt_of_le_of_lt (Nat.mod_le _ _) (by omega)) (by first | omega | exact Nat.lt_of_le_of_lt (Nat.mod_le _ _) (by omega)) (fun c1 => ?_) (fun c1 => ?_)
    · obtain rfl : i = s.1 := by omega
      exact kk
    · have hb := ho.2 i c1
      refine aX_aload_n dX11_divide_177 rfl ?_
      refine aX_get dX11_divide_178 lfX11_13 s159 (f159_2 hR) ?_
      refine aX_iload dX11_divide_181 rfl ?_
      refine nIald (v := nI (s.2.2.1 i)) dX11_divide_183 s161 (by first | omega | exact Nat.lt_of_le_of_lt (Nat.mod_le _ _) (by omega)) (by decide) ((hs.2 i (by omega)).2.1) ?_
      refine aX_aload_n dX11_divide_184 rfl ?_
      refine aX_get dX11_divide_185 lfX11_72 s159 (f159_23 hR) ?_
      refine aX_iload_n dX11_divide_188 rfl ?_
      refine nIald (v := nI (tt)) dX11_divide_189 s178 (by first | omega | exact Nat.lt_of_le_of_lt (Nat.mod_le _ _) (by omega)) (by decide) (h178) ?_
      refine nGt (tgt := 252) dX11_divide_190 (by decide) (by first | omega | exact Nat.lt_of_le_of_lt (Nat.mod_le _ _) (by omega)) (by first | omega | exact Nat.lt_of_le_of_lt (Nat.mod_le _ _) (by omega)) (fun c2 => ?_) (fun c2 => ?_)
      · have hon : jOn s i tt = false := by unfold jOn; simp; omega
        refine nInc (lv' := [(0, .ref 159), (1, .int (nI (l.length))), (2, .int (nI (k))), (3, .int (nI (jBt s tt i))), (4, .int (nI (jCnt (fun i => jOn s i tt) i))), (5, .int (rBv (jBs s tt i))), (6, .int (nI (i + 1)))]) dX11_divide_252 rfl rfl (by decide) rfl ?_
        refine aX_goto (tgt := 168) dX11_divide_255 (by decide) ?_
        refine aX_lv (lv' := [(0, .ref 159), (1, .int (nI l.length)), (2, .int (nI k)), (3, .int (nI (jBt s tt (i + 1)))), (4, .int (nI (jCnt (fun i => jOn s i tt) (i + 1)))), (5, .int (rBv (jBs s tt (i + 1)))), (6, .int (nI (i + 1)))]) [0, 1, 2, 3, 4, 5, 6] (by rw [show jBt s tt (i + 1) = jBt s tt i from if_neg (by rw [hon]; decide), jCnt_f (f := fun i => jOn s i tt) hon, jBs_f hon]; rfl) ?_
        exact ih (s.1 - (i + 1)) (by omega) (i + 1) (by omega) rfl
      · refine aX_aload_n dX11_divide_193 rfl ?_
        refine aX_get dX11_divide_194 lfX11_16 s159 (f159_3 hR) ?_
        refine aX_iload dX11_divide_197 rfl ?_
        refine nIald (v := nI (s.2.2.2.1 i)) dX11_divide_199 s162 (by first | omega | exact Nat.lt_of_le_of_lt (Nat.mod_le _ _) (by omega)) (by decide) ((hs.2 i (by omega)).2.2.1) ?_
        refine aX_aload_n dX11_divide_200 rfl ?_
        refine aX_get dX11_divide_201 lfX11_72 s159 (f159_23 hR) ?_
        refine aX_iload_n dX11_divide_204 rfl ?_
        refine nIald (v := nI (tt)) dX11_divide_205 s178 (by first | omega | exact Nat.lt_of_le_of_lt (Nat.mod_le _ _) (by omega)) (by decide) (h178) ?_
        refine nLe (tgt := 252) dX11_divide_206 (by decide) (by first | omega | exact Nat.lt_of_le_of_lt (Nat.mod_le _ _) (by omega)) (by first | omega | exact Nat.lt_of_le_of_lt (Nat.mod_le _ _) (by omega)) (fun c3 => ?_) (fun c3 => ?_)
        · have hon : jOn s i tt = false := by unfold jOn; simp; omega
          refine nInc (lv' := [(0, .ref 159), (1, .int (nI (l.length))), (2, .int (nI (k))), (3, .int (nI (jBt s tt i))), (4, .int (nI (jCnt (fun i => jOn s i tt) i))), (5, .int (rBv (jBs s tt i))), (6, .int (nI (i + 1)))]) dX11_divide_252 rfl rfl (by decide) rfl ?_
          refine aX_goto (tgt := 168) dX11_divide_255 (by decide) ?_
          refine aX_lv (lv' := [(0, .ref 159), (1, .int (nI l.length)), (2, .int (nI k)), (3, .int (nI (jBt s tt (i + 1)))), (4, .int (nI (jCnt (fun i => jOn s i tt) (i + 1)))), (5, .int (rBv (jBs s tt (i + 1)))), (6, .int (nI (i + 1)))]) [0, 1, 2, 3, 4, 5, 6] (by rw [show jBt s tt (i + 1) = jBt s tt i from if_neg (by rw [hon]; decide), jCnt_f (f := fun i => jOn s i tt) hon, jBs_f hon]; rfl) ?_
          exact ih (s.1 - (i + 1)) (by omega) (i + 1) (by omega) rfl
        · have hon : jOn s i tt = true := by unfold jOn; simp; omega
          have hor : nI (jBt s tt i) ||| nI 1 <<< (nI i &&& 31) = nI (jBt s tt (i + 1)) := by
            have h1 := jBt_lt s tt i
            have h2 : 2 ^ i ≤ 2 ^ 16 := Nat.pow_le_pow_right (by decide) (by omega)
            rw [nShl1 i (by omega), nI_or, Nat.mod_eq_of_lt (by omega), Nat.mod_eq_of_lt (by omega), or_bit h1]
            show _ = nI (if jOn s i tt then _ else _)
            rw [if_pos hon]
          refine aX_iload_n dX11_divide_209 rfl ?_
          refine aX_iconst (v := nI 1) dX11_divide_210 (by decide) ?_
          refine aX_iload dX11_divide_211 rfl ?_
          refine aX_ishl dX11_divide_213 ?_
          refine aX_ior dX11_divide_214 ?_
          rw [hor]
          refine aX_istore_n (lv' := [(0, .ref 159), (1, .int (nI (l.length))), (2, .int (nI (k))), (3, .int (nI (jBt s tt (i + 1)))), (4, .int (nI (jCnt (fun i => jOn s i tt) i))), (5, .int (rBv (jBs s tt i))), (6, .int (nI (i)))]) dX11_divide_215 (by decide) rfl ?_
          refine nInc (lv' := [(0, .ref 159), (1, .int (nI (l.length))), (2, .int (nI (k))), (3, .int (nI (jBt s tt (i + 1)))), (4, .int (nI ((jCnt (fun i => jOn s i tt) i) + 1))), (5, .int (rBv (jBs s tt i))), (6, .int (nI (i)))]) dX11_divide_216 rfl rfl (by decide) rfl ?_
          refine aX_iload dX11_divide_219 rfl ?_
          refine aX_bipush (v := (-9)) dX11_divide_221 (by decide) ?_
          refine aX_icmp_eq (tgt := 243) dX11_divide_223 (by decide) (fun c4 => ?_) (fun c4 => ?_)
          · have hbs : jBs s tt i = none := by
              cases hb0 : jBs s tt i with
              | none => rfl
              | some b => exact absurd (by have z := c4; rw [hb0] at z; exact z) (nI_ne9 (show b < 2 ^ 31 by have := (jBs_lt hb0).1; omega))
            have hnew : rBv (jBs s tt (i + 1)) = nI i := by rw [jBs_t0 hon hbs]; rfl
            refine aX_iload dX11_divide_243 rfl ?_
            refine aX_goto (tgt := 250) dX11_divide_245 (by decide) ?_
            refine aX_istore (lv' := [(0, .ref 159), (1, .int (nI (l.length))), (2, .int (nI (k))), (3, .int (nI (jBt s tt (i + 1)))), (4, .int (nI ((jCnt (fun i => jOn s i tt) i) + 1))), (5, .int (nI (i))), (6, .int (nI (i)))]) dX11_divide_250 (by decide) rfl ?_
            refine nInc (lv' := [(0, .ref 159), (1, .int (nI (l.length))), (2, .int (nI (k))), (3, .int (nI (jBt s tt (i + 1)))), (4, .int (nI ((jCnt (fun i => jOn s i tt) i) + 1))), (5, .int (nI (i))), (6, .int (nI (i + 1)))]) dX11_divide_252 rfl rfl (by decide) rfl ?_
            refine aX_goto (tgt := 168) dX11_divide_255 (by decide) ?_
            refine aX_lv (lv' := [(0, .ref 159), (1, .int (nI l.length)), (2, .int (nI k)), (3, .int (nI (jBt s tt (i + 1)))), (4, .int (nI (jCnt (fun i => jOn s i tt) (i + 1)))), (5, .int (rBv (jBs s tt (i + 1)))), (6, .int (nI (i + 1)))]) [0, 1, 2, 3, 4, 5, 6] (by rw [jCnt_t (f := fun i => jOn s i tt) hon, hnew]; rfl) ?_
            exact ih (s.1 - (i + 1)) (by omega) (i + 1) (by omega) rfl
          · obtain ⟨b, hbs⟩ : ∃ b, jBs s tt i = some b := by
              cases hb0 : jBs s tt i with
              | none => exact absurd (by rw [hb0]; rfl) c4
              | some b => exact ⟨b, rfl⟩
            have hbi := jBs_lt hbs
            have hb2 := ho.2 b (by omega)
            have hrb : rBv (jBs s tt i) = nI b := by rw [hbs]; rfl
            rw [hrb]
            refine aX_aload_n dX11_divide_226 rfl ?_
            refine aX_get dX11_divide_227 lfX11_7 s159 (f159_1 hR) ?_
            refine aX_iload dX11_divide_230 rfl ?_
            refine nIald (v := nI (s.2.1 i)) dX11_divide_232 s160 (by first | omega | exact Nat.lt_of_le_of_lt (Nat.mod_le _ _) (by omega)) (by decide) ((hs.2 i (by omega)).1) ?_
            refine aX_aload_n dX11_divide_233 rfl ?_
            refine aX_get dX11_divide_234 lfX11_7 s159 (f159_1 hR) ?_
            refine aX_iload dX11_divide_237 rfl ?_
            refine nIald (v := nI (s.2.1 b)) dX11_divide_239 s160 (by first | omega | exact Nat.lt_of_le_of_lt (Nat.mod_le _ _) (by omega)) (by decide) ((hs.2 b (by omega)).1) ?_
            refine nGe (tgt := 248) dX11_divide_240 (by decide) (by first | omega | exact Nat.lt_of_le_of_lt (Nat.mod_le _ _) (by omega)) (by first | omega | exact Nat.lt_of_le_of_lt (Nat.mod_le _ _) (by omega)) (fun c5 => ?_) (fun c5 => ?_)
            · have hnew : rBv (jBs s tt (i + 1)) = nI b := by rw [jBs_t2 hon hbs c5]; rfl
              refine aX_iload dX11_divide_248 rfl ?_
              refine aX_istore (lv' := [(0, .ref 159), (1, .int (nI (l.length))), (2, .int (nI (k))), (3, .int (nI (jBt s tt (i + 1)))), (4, .int (nI ((jCnt (fun i => jOn s i tt) i) + 1))), (5, .int (nI (b))), (6, .int (nI (i)))]) dX11_divide_250 (by decide) rfl ?_
              refine nInc (lv' := [(0, .ref 159), (1, .int (nI (l.length))), (2, .int (nI (k))), (3, .int (nI (jBt s tt (i + 1)))), (4, .int (nI ((jCnt (fun i => jOn s i tt) i) + 1))), (5, .int (nI (b))), (6, .int (nI (i + 1)))]) dX11_divide_252 rfl rfl (by decide) rfl ?_
              refine aX_goto (tgt := 168) dX11_divide_255 (by decide) ?_
              refine aX_lv (lv' := [(0, .ref 159), (1, .int (nI l.length)), (2, .int (nI k)), (3, .int (nI (jBt s tt (i + 1)))), (4, .int (nI (jCnt (fun i => jOn s i tt) (i + 1)))), (5, .int (rBv (jBs s tt (i + 1)))), (6, .int (nI (i + 1)))]) [0, 1, 2, 3, 4, 5, 6] (by rw [jCnt_t (f := fun i => jOn s i tt) hon, hnew]; rfl) ?_
              exact ih (s.1 - (i + 1)) (by omega) (i + 1) (by omega) rfl
            · have hnew : rBv (jBs s tt (i + 1)) = nI i := by rw [jBs_t1 hon hbs c5]; rfl
              refine aX_iload dX11_divide_243 rfl ?_
              refine aX_goto (tgt := 250) dX11_divide_245 (by decide) ?_
              refine aX_istore (lv' := [(0, .ref 159), (1, .int (nI (l.length))), (2, .int (nI (k))), (3, .int (nI (jBt s tt (i + 1)))), (4, .int (nI ((jCnt (fun i => jOn s i tt) i) + 1))), (5, .int (nI (i))), (6, .int (nI (i)))]) dX11_divide_250 (by decide) rfl ?_
              refine nInc (lv' := [(0, .ref 159), (1, .int (nI (l.length))), (2, .int (nI (k))), (3, .int (nI (jBt s tt (i + 1)))), (4, .int (nI ((jCnt (fun i => jOn s i tt) i) + 1))), (5, .int (nI (i))), (6, .int (nI (i + 1)))]) dX11_divide_252 rfl rfl (by decide) rfl ?_
              refine aX_goto (tgt := 168) dX11_divide_255 (by decide) ?_
              refine aX_lv (lv' := [(0, .ref 159), (1, .int (nI l.length)), (2, .int (nI k)), (3, .int (nI (jBt s tt (i + 1)))), (4, .int (nI (jCnt (fun i => jOn s i tt) (i + 1)))), (5, .int (rBv (jBs s tt (i + 1)))), (6, .int (nI (i + 1)))]) [0, 1, 2, 3, 4, 5, 6] (by rw [jCnt_t (f := fun i => jOn s i tt) hon, hnew]; rfl) ?_
              exact ih (s.1 - (i + 1)) (by omega) (i + 1) (by omega) rfl
set_option maxHeartbeats 1000000 in
theorem ml_sets {I : Nat → Nat → Int32} {L : Nat → Nat → Int64} {R : Nat → Nat → Option Nat} (hR : aRf R) {s : jN} (ho : jOk s) {r : jR} {l : List Nat} : ∀ (k9 k : Nat), k ≤ l.length - 1 → (l.length - 1) - k = k9 → ∀ (I1 : Nat → Nat → Int32), mnRep I1 s → mlRep I1 r → tkOk I1 s l (2 * s.1) → msRep I1 s (rsP s l k) → I1 159 12 = bI false → I1 159 13 = bI false → dvK I I1 → aX mX11_divide aE0 (sh0, I1, L, R) 149 [(0, .ref 159), (1, .int (nI (l.length))), (2, .int (nI (k)))] [] 0 0 (fun ans h' => ans = none ∧ ∃ I', h' = (sh0, I', L, R) ∧ mnRep I' s ∧ msRep I' s (jS s) ∧ mlRep I' r ∧ mcRep I' s r ∧ I' 159 12 = bI false ∧ I' 159 13 = bI false ∧ dvK I I') := by
  intro k9
  induction k9 using Nat.strongRecOn with
  | _ k9 ih =>
    intro k hi hk9 I1  hs hl htk hS hf0 hf1 hk2
    have hn := ho.1
    have hll := htk.2.2.2
    refine aX_iload_n dX11_divide_149 rfl ?_
    refine aX_iconst (v := nI 1) dX11_divide_150 (by decide) ?_
    refine nAdd dX11_divide_151 ?_
    refine aX_iload_n dX11_divide_152 rfl ?_
    refine nGe (tgt := 342) dX11_divide_153 (by decide) (by first | omega | exact Nat.lt_of_le_of_lt (Nat.mod_le _ _) (by omega)) (by first | omega | exact Nat.lt_of_le_of_lt (Nat.mod_le _ _) (by omega)) (fun c1 => ?_) (fun c1 => ?_)
    · refine aX_aload_n dX11_divide_342 rfl ?_
      have hrs : rsP s l k = jS s := by
        rw [show k = l.length - 1 by omega]
        exact rsP_eq ho htk.2.1 (fun x => (htk.2.2.1 x).trans tk_in) (by omega)
      rw [hrs] at hS
      refine cV (As := []) (st := []) dX11_divide_343 kX11_divide_157 s159 aEok0 rfl rfl (Nat.le_of_ble_eq_true rfl) (m_count hR hs ho hS hl) (fun ans' h' hq9 => ?_)
      obtain ⟨rfl, I2, rfl, hmc, hk3⟩ := hq9
      refine ⟨rfl, ?_⟩
      exact rV dX11_divide_346 rfl (⟨rfl, I2, rfl, mnRep_of (fun q j g => hk3 q j (by omega) (by omega) (by omega)) hs, msRep_of (fun q j g => hk3 q j (by omega) (by omega) (by omega)) hS, mlRep_of (fun q j _ _ => hk3 q j (by omega) (by omega) (by omega)) hl, hmc, (hk3 159 12 (by omega) (by omega) (by omega)).trans hf0, (hk3 159 13 (by omega) (by omega) (by omega)).trans hf1, fun q j g1 g2 => (hk3 q j (by omega) (by omega) (by omega)).trans (hk2 q j g1 g2)⟩)
    · refine aX_iconst (v := nI 0) dX11_divide_156 (by decide) ?_
      refine aX_istore_n (lv' := [(0, .ref 159), (1, .int (nI (l.length))), (2, .int (nI (k))), (3, .int (nI (0)))]) dX11_divide_157 (by decide) rfl ?_
      refine aX_iconst (v := nI 0) dX11_divide_158 (by decide) ?_
      refine aX_istore (lv' := [(0, .ref 159), (1, .int (nI (l.length))), (2, .int (nI (k))), (3, .int (nI (0))), (4, .int (nI (0)))]) dX11_divide_159 (by decide) rfl ?_
      refine aX_bipush (v := (-9)) dX11_divide_161 (by decide) ?_
      refine aX_istore (lv' := [(0, .ref 159), (1, .int (nI (l.length))), (2, .int (nI (k))), (3, .int (nI (0))), (4, .int (nI (0))), (5, .int ((-9)))]) dX11_divide_163 (by decide) rfl ?_
      refine aX_iconst (v := nI 0) dX11_divide_165 (by decide) ?_
      refine aX_istore (lv' := [(0, .ref 159), (1, .int (nI (l.length))), (2, .int (nI (k))), (3, .int (nI (0))), (4, .int (nI (0))), (5, .int ((-9))), (6, .int (nI (0)))]) dX11_divide_166 (by decide) rfl ?_
      obtain ⟨tt, htt⟩ : ∃ tt, l[k]? = some tt := ⟨_, List.getElem?_eq_getElem (by omega)⟩
      obtain ⟨ty, hty⟩ : ∃ ty, l[k + 1]? = some ty := ⟨_, List.getElem?_eq_getElem (by omega)⟩
      have ht9 : ∀ x, x ∈ l → x ≤ 9999 := fun x hx => by
        obtain ⟨j, h1, h2⟩ := (htk.2.2.1 x).mp hx
        rw [h2]; exact tk_le ho h1
      have htt9 := ht9 tt (List.mem_of_getElem? htt)
      have hty9 := ht9 ty (List.mem_of_getElem? hty)
      have hg0 : l.getD k 0 = tt := by rw [List.getD_eq_getElem?_getD, htt]; rfl
      have hg1 : l.getD (k + 1) 0 = ty := by rw [List.getD_eq_getElem?_getD, hty]; rfl
      have hDl := rsP_len s l k
      have hbtl := jBt_lt s tt s.1
      have hbp : 2 ^ s.1 ≤ 2 ^ 16 := Nat.pow_le_pow_right (by decide) hn
      have hsl := jSnd_le s tt
      have hb0 := jBt_0 (s := s) (t := tt) s.1
      refine ml_setIn hR hs ho htt (by omega) htt9 (htk.1 k tt htt) ?_ _ 0 (by omega) rfl
      refine aX_iload_n dX11_divide_258 rfl ?_
      refine nIf_eq (tgt := 336) dX11_divide_259 (by decide) (by first | omega | exact Nat.lt_of_le_of_lt (Nat.mod_le _ _) (by omega)) (fun c1 => ?_) (fun c1 => ?_)
      · have hz : ¬ 0 < jSnd s tt := by
          have : jSnd s tt = 0 := hb0.mp c1
          omega
        refine nInc (lv' := [(0, .ref 159), (1, .int (nI (l.length))), (2, .int (nI (k + 1))), (3, .int (nI (jBt s tt s.1))), (4, .int (nI (jSnd s tt))), (5, .int (rBv (jBs s tt s.1))), (6, .int (nI (s.1)))]) dX11_divide_336 rfl rfl (by decide) rfl ?_
        refine aX_goto (tgt := 149) dX11_divide_339 (by decide) ?_
        refine aX_lv (lv' := [(0, .ref 159), (1, .int (nI (l.length))), (2, .int (nI (k + 1)))]) [0, 1, 2] rfl ?_
        exact ih (l.length - 1 - (k + 1)) (by omega) (k + 1) (by omega) rfl I1 hs hl htk (by
          have e : rsP s l (k + 1) = rsP s l k := by show rsP s l k ++ (if 0 < jSnd s (l.getD k 0) then _ else []) = _; rw [hg0, if_neg hz, List.append_nil]
          rw [e]; exact hS) hf0 hf1 hk2
      · have hz : 0 < jSnd s tt := by
          refine Nat.pos_of_ne_zero (fun y => ?_)
          have := hb0.mpr y
          omega
        have hbs := (jBase_in hz).1
        have hbv : rBv (jBs s tt s.1) = nI (jBase s tt) := by rw [hbs]; rfl
        rw [hbv]
        refine aX_aload_n dX11_divide_262 rfl ?_
        refine aX_get dX11_divide_263 lfX11_51 s159 (f159_15 hR) ?_
        refine aX_aload_n dX11_divide_266 rfl ?_
        refine aX_get (v := .int (nI ((rsP s l k).length))) dX11_divide_267 lfX11_154 s159 (congrArg Value.int (hS.1)) ?_
        refine aX_aload_n dX11_divide_270 rfl ?_
        refine aX_get dX11_divide_271 lfX11_72 s159 (f159_23 hR) ?_
        refine aX_iload_n dX11_divide_274 rfl ?_
        refine nIald (v := nI (tt)) dX11_divide_275 s178 (by first | omega | exact Nat.lt_of_le_of_lt (Nat.mod_le _ _) (by omega)) (by decide) (htk.1 k tt htt) ?_
        refine nIast dX11_divide_276 s171 (by first | omega | exact Nat.lt_of_le_of_lt (Nat.mod_le _ _) (by omega)) (by decide) ?_
        refine aX_aload_n dX11_divide_277 rfl ?_
        refine aX_get dX11_divide_278 lfX11_54 s159 (f159_16 hR) ?_
        refine aX_aload_n dX11_divide_281 rfl ?_
        refine aX_get (v := .int (nI ((rsP s l k).length))) dX11_divide_282 lfX11_154 s159 (congrArg Value.int (show (aU I1 171 ((rsP s l k).length) (nI (tt))) 159 14 = nI (rsP s l k).length by rw [aU_n (by omega)]; exact hS.1)) ?_
        refine aX_aload_n dX11_divide_285 rfl ?_
        refine aX_get dX11_divide_286 lfX11_72 s159 (f159_23 hR) ?_
        refine aX_iload_n dX11_divide_289 rfl ?_
        refine aX_iconst (v := nI 1) dX11_divide_290 (by decide) ?_
        refine nAdd dX11_divide_291 ?_
        refine nIald (v := nI (ty)) dX11_divide_292 s178 (by first | omega | exact Nat.lt_of_le_of_lt (Nat.mod_le _ _) (by omega)) (by decide) (show (aU I1 171 ((rsP s l k).length) (nI (tt))) 178 (k + 1) = nI ty by rw [aU_n (by omega)]; exact htk.1 (k + 1) ty hty) ?_
        refine nIast dX11_divide_293 s172 (by first | omega | exact Nat.lt_of_le_of_lt (Nat.mod_le _ _) (by omega)) (by decide) ?_
        refine aX_aload_n dX11_divide_294 rfl ?_
        refine aX_get dX11_divide_295 lfX11_57 s159 (f159_17 hR) ?_
        refine aX_aload_n dX11_divide_298 rfl ?_
        refine aX_get (v := .int (nI ((rsP s l k).length))) dX11_divide_299 lfX11_154 s159 (congrArg Value.int (show (aU (aU I1 171 ((rsP s l k).length) (nI (tt))) 172 ((rsP s l k).length) (nI (ty))) 159 14 = nI (rsP s l k).length by rw [aU_n (by omega), aU_n (by omega)]; exact hS.1)) ?_
        refine aX_iload_n dX11_divide_302 rfl ?_
        refine nIast dX11_divide_303 s173 (by first | omega | exact Nat.lt_of_le_of_lt (Nat.mod_le _ _) (by omega)) (by decide) ?_
        refine aX_aload_n dX11_divide_304 rfl ?_
        refine aX_get dX11_divide_305 lfX11_63 s159 (f159_19 hR) ?_
        refine aX_aload_n dX11_divide_308 rfl ?_
        refine aX_get (v := .int (nI ((rsP s l k).length))) dX11_divide_309 lfX11_154 s159 (congrArg Value.int (show (aU (aU (aU I1 171 ((rsP s l k).length) (nI (tt))) 172 ((rsP s l k).length) (nI (ty))) 173 ((rsP s l k).length) (nI (jBt s tt s.1))) 159 14 = nI (rsP s l k).length by rw [aU_n (by omega), aU_n (by omega), aU_n (by omega)]; exact hS.1)) ?_
        refine aX_iload dX11_divide_312 rfl ?_
        refine nIast dX11_divide_314 s175 (by first | omega | exact Nat.lt_of_le_of_lt (Nat.mod_le _ _) (by omega)) (by decide) ?_
        refine aX_aload_n dX11_divide_315 rfl ?_
        refine aX_get dX11_divide_316 lfX11_60 s159 (f159_18 hR) ?_
        refine aX_aload_n dX11_divide_319 rfl ?_
        refine aX_get (v := .int (nI ((rsP s l k).length))) dX11_divide_320 lfX11_154 s159 (congrArg Value.int (show (aU (aU (aU (aU I1 171 ((rsP s l k).length) (nI (tt))) 172 ((rsP s l k).length) (nI (ty))) 173 ((rsP s l k).length) (nI (jBt s tt s.1))) 175 ((rsP s l k).length) (nI (jSnd s tt))) 159 14 = nI (rsP s l k).length by rw [aU_n (by omega), aU_n (by omega), aU_n (by omega), aU_n (by omega)]; exact hS.1)) ?_
        refine aX_iload dX11_divide_323 rfl ?_
        refine nIast dX11_divide_325 s174 (by first | omega | exact Nat.lt_of_le_of_lt (Nat.mod_le _ _) (by omega)) (by decide) ?_
        refine aX_aload_n dX11_divide_326 rfl ?_
        refine aX_dup dX11_divide_327 rfl ?_
        refine aX_get (v := .int (nI ((rsP s l k).length))) dX11_divide_328 lfX11_154 s159 (congrArg Value.int (show (aU (aU (aU (aU (aU I1 171 ((rsP s l k).length) (nI (tt))) 172 ((rsP s l k).length) (nI (ty))) 173 ((rsP s l k).length) (nI (jBt s tt s.1))) 175 ((rsP s l k).length) (nI (jSnd s tt))) 174 ((rsP s l k).length) (nI (jBase s tt))) 159 14 = nI (rsP s l k).length by rw [aU_n (by omega), aU_n (by omega), aU_n (by omega), aU_n (by omega), aU_n (by omega)]; exact hS.1)) ?_
        refine aX_iconst (v := nI 1) dX11_divide_331 (by decide) ?_
        refine nAdd dX11_divide_332 ?_
        refine pI dX11_divide_333 lfX11_154 (fun _ _ _ hq => by cases hq; exact Or.inl rfl) s159 rfl ?_
        refine nInc (lv' := [(0, .ref 159), (1, .int (nI (l.length))), (2, .int (nI (k + 1))), (3, .int (nI (jBt s tt s.1))), (4, .int (nI (jSnd s tt))), (5, .int (nI (jBase s tt))), (6, .int (nI (s.1)))]) dX11_divide_336 rfl rfl (by decide) rfl ?_
        refine aX_goto (tgt := 149) dX11_divide_339 (by decide) ?_
        refine aX_lv (lv' := [(0, .ref 159), (1, .int (nI (l.length))), (2, .int (nI (k + 1)))]) [0, 1, 2] rfl ?_
        obtain ⟨I2, hI2⟩ : ∃ y, y = (aU (aU (aU (aU (aU (aU I1 171 ((rsP s l k).length) (nI (tt))) 172 ((rsP s l k).length) (nI (ty))) 173 ((rsP s l k).length) (nI (jBt s tt s.1))) 175 ((rsP s l k).length) (nI (jSnd s tt))) 174 ((rsP s l k).length) (nI (jBase s tt))) 159 14 (nI (((rsP s l k).length) + 1))) := ⟨_, rfl⟩
        rw [← hI2]
        have hk3 : ∀ q j, ¬ (q = 159 ∧ j = 14) → ¬ (171 ≤ q ∧ q ≤ 175) → I2 q j = I1 q j := fun q j g1 g2 => by rw [hI2, aU_n (by omega), aU_n (by omega), aU_n (by omega), aU_n (by omega), aU_n (by omega), aU_n (by omega)]
        have hS2 : msRep I2 s (rsP s l (k + 1)) := by
          have e : rsP s l (k + 1) = rsP s l k ++ [(tt, ty)] := by show rsP s l k ++ (if 0 < jSnd s (l.getD k 0) then _ else []) = _; rw [hg0, if_pos hz, hg1]
          rw [e]
          refine ⟨by rw [hI2, aU_s, List.length_append]; rfl, fun k' q' hq' => ?_⟩
          by_cases g : k' < (rsP s l k).length
          · rw [List.getElem?_append_left g] at hq'
            obtain ⟨a1, a2, a3, a4, a5⟩ := hS.2 k' q' hq'
            refine ⟨?_, ?_, ?_, ?_, ?_⟩
            all_goals rw [hI2, aU_n (by omega), aU_n (by omega), aU_n (by omega), aU_n (by omega), aU_n (by omega), aU_n (by omega)]
            all_goals assumption
          · rw [List.getElem?_append_right (by omega)] at hq'
            have hz1 : k' - (rsP s l k).length < 1 := (List.getElem?_eq_some_iff.mp hq').1
            rw [show k' - (rsP s l k).length = 0 by omega] at hq'
            injection hq' with hq'
            subst hq'
            rw [show k' = (rsP s l k).length by omega]
            refine ⟨?_, ?_, ?_, ?_, ?_⟩
            · rw [hI2, aU_n (by omega), aU_n (by omega), aU_n (by omega), aU_n (by omega), aU_n (by omega), aU_s]
            · rw [hI2, aU_n (by omega), aU_n (by omega), aU_n (by omega), aU_n (by omega), aU_s]
            · rw [hI2, aU_n (by omega), aU_n (by omega), aU_n (by omega), aU_s]
            · rw [hI2, aU_n (by omega), aU_s]
            · rw [hI2, aU_n (by omega), aU_n (by omega), aU_s]
        exact ih (l.length - 1 - (k + 1)) (by omega) (k + 1) (by omega) rfl I2 (mnRep_of (fun q j g => hk3 q j (by omega) (by omega)) hs) (mlRep_of (fun q j _ _ => hk3 q j (by omega) (by omega)) hl) ⟨fun j x hx => (hk3 178 j (by omega) (by omega)).trans (htk.1 j x hx), htk.2⟩ hS2 ((hk3 159 12 (by omega) (by omega)).trans hf0) ((hk3 159 13 (by omega) (by omega)).trans hf1) (fun q j g1 g2 => (hk3 q j (by omega) (by omega)).trans (hk2 q j g1 g2))
set_option maxHeartbeats 1000000 in
theorem m_divide {I : Nat → Nat → Int32} {L : Nat → Nat → Int64} {R : Nat → Nat → Option Nat} (hR : aRf R) {s : jN} (hs : mnRep I s) (ho : jOk s) {r : jR} (hl : mlRep I r) : aM mX11_divide [.ref 159] (sh0, I, L, R) (fun ans h' => ans = none ∧ ∃ I', h' = (sh0, I', L, R) ∧ mnRep I' s ∧ msRep I' s (jS s) ∧ mlRep I' r ∧ mcRep I' s r ∧ I' 159 12 = bI false ∧ I' 159 13 = bI false ∧ dvK I I') := by
  refine aM_of plX11_divide (Nat.le_of_ble_eq_true rfl) ?_
  refine aX_aload_n dX11_divide_0 rfl ?_
  refine aX_iconst (v := nI 0) dX11_divide_1 (by decide) ?_
  refine pZ (b := false) dX11_divide_2 lfX11_143 (fun _ _ _ hq => by cases hq; exact Or.inl rfl) s159 rfl ?_
  refine aX_aload_n dX11_divide_5 rfl ?_
  refine aX_iconst (v := nI 0) dX11_divide_6 (by decide) ?_
  refine pZ (b := false) dX11_divide_7 lfX11_147 (fun _ _ _ hq => by cases hq; exact Or.inl rfl) s159 rfl ?_
  refine aX_iconst (v := nI 0) dX11_divide_10 (by decide) ?_
  refine aX_istore_n (lv' := [(0, .ref 159), (1, .int (nI (0)))]) dX11_divide_11 (by decide) rfl ?_
  refine aX_iconst (v := nI 0) dX11_divide_12 (by decide) ?_
  refine aX_istore_n (lv' := [(0, .ref 159), (1, .int (nI (0))), (2, .int (nI (0)))]) dX11_divide_13 (by decide) rfl ?_
  obtain ⟨I1, hI1⟩ : ∃ y, y = (aU (aU I 159 12 (bI (false))) 159 13 (bI (false))) := ⟨_, rfl⟩
  rw [← hI1]
  have hk1 : ∀ q j, ¬ (q = 159 ∧ (j = 12 ∨ j = 13)) → I1 q j = I q j := fun q j g => by rw [hI1, aU_n (by omega), aU_n (by omega)]
  refine ml_ticks hR ho (I := I1) (fun I2 l htk hk2 => ?_) _ 0 (by omega) rfl I1 [] (mnRep_of (fun q j g => hk1 q j (by omega)) hs) ⟨fun j x h => by simp at h, List.Pairwise.nil, fun x => ⟨fun h => by (cases h), fun ⟨j, h, _⟩ => by omega⟩, Nat.le_refl _⟩ (fun _ _ _ => rfl)
  have hf0 : I2 159 12 = bI false := by rw [hk2 159 12 (by omega), hI1, aU_n (by omega), aU_s]
  have hf1 : I2 159 13 = bI false := by rw [hk2 159 13 (by omega), hI1, aU_s]
  have hkk : ∀ q j, ¬ (q = 159 ∧ (j = 12 ∨ j = 13)) → q ≠ 178 → I2 q j = I q j := fun q j g1 g2 => (hk2 q j g2).trans (hk1 q j g1)
  refine aX_aload_n dX11_divide_142 rfl ?_
  refine aX_iconst (v := nI 0) dX11_divide_143 (by decide) ?_
  refine pI dX11_divide_144 lfX11_154 (fun _ _ _ hq => by cases hq; exact Or.inl rfl) s159 rfl ?_
  refine aX_iconst (v := nI 0) dX11_divide_147 (by decide) ?_
  refine aX_istore_n (lv' := [(0, .ref 159), (1, .int (nI (l.length))), (2, .int (nI (0)))]) dX11_divide_148 (by decide) rfl ?_
  exact ml_sets hR ho _ 0 (by omega) rfl _ (mnRep_of (fun q j g => by rw [aU_n (by omega)]; exact hkk q j (by omega) (by omega)) hs) (mlRep_of (fun q j _ _ => by rw [aU_n (by omega)]; exact hkk q j (by omega) (by omega)) hl) ⟨fun j x hx => by rw [aU_n (by omega)]; exact htk.1 j x hx, htk.2⟩ ⟨aU_s, fun k q h => by simp [rsP] at h⟩ (by rw [aU_n (by omega)]; exact hf0) (by rw [aU_n (by omega)]; exact hf1) (fun q j g1 g2 => by rw [aU_n (by omega)]; exact hkk q j (by omega) (by omega))
