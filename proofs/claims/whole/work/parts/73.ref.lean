/-! THE REFERENCE: count, divide -/
def mvIn (I : Nat → Nat → Int32) (s : jN) (S : List (Nat × Nat)) (k i : Nat) (v : Nat × (Nat → Nat → Nat)) : Prop :=
  I 159 21 = nI v.1 ∧ (∀ k' q m, k' < k → S[k']? = some q → m ∈ jMem s q.1 → I 177 (16 * k' + m) = nI (v.2 k' m)) ∧ (∀ q m, S[k]? = some q → m ∈ jML s q.1 i → I 177 (16 * k + m) = nI (v.2 k m))
theorem jML_lt {s : jN} {t : Nat} : ∀ {n m : Nat}, m ∈ jML s t n → m < n := fun h => (jML_mem.mp h).1
theorem mvIn_on {I I' : Nat → Nat → Int32} {s : jN} {S : List (Nat × Nat)} {k i : Nat} {v : Nat × (Nat → Nat → Nat)} {c w : Nat} {q : Nat × Nat} (hn : s.1 ≤ 16) (hi : i < s.1) (h : mvIn I s S k i v) (hq : S[k]? = some q) (hon : jOn s i q.1 = true) (h1 : I' 159 21 = nI c) (h2 : I' 177 (16 * k + i) = nI w) (h3 : ∀ j, j ≠ 16 * k + i → I' 177 j = I 177 j) : mvIn I' s S k (i + 1) (c, aU v.2 k i w) := by
  refine ⟨h1, fun k' q' m hk' hq' hm => ?_, fun q' m hq' hm => ?_⟩
  · have hml := jML_lt hm
    show I' 177 (16 * k' + m) = nI (aU v.2 k i w k' m)
    rw [aU_n (by omega), h3 _ (by omega)]; exact h.2.1 k' q' m hk' hq' hm
  · rw [hq] at hq'
    injection hq' with hq'
    subst hq'
    rw [jML_t hon] at hm
    show I' 177 (16 * k + m) = nI (aU v.2 k i w k m)
    by_cases e : m = i
    · subst e; rw [aU_s, h2]
    · rw [aU_n (by omega), h3 _ (by omega)]
      exact h.2.2 q m hq (by
        rcases List.mem_append.mp hm with g | g
        · exact g
        · exact absurd (List.mem_singleton.mp g) e)
theorem mvIn_off {I : Nat → Nat → Int32} {s : jN} {S : List (Nat × Nat)} {k i : Nat} {v : Nat × (Nat → Nat → Nat)} {q : Nat × Nat} (h : mvIn I s S k i v) (hq : S[k]? = some q) (hon : jOn s i q.1 = false) : mvIn I s S k (i + 1) v :=
  ⟨h.1, h.2.1, fun q' m hq' hm => by
    rw [hq] at hq'
    injection hq' with hq'
    subst hq'
    rw [jML_f hon] at hm
    exact h.2.2 q m hq hm⟩
def mcRep (I : Nat → Nat → Int32) (s : jN) (r : jR) : Prop := I 159 21 = nI (jVn s) ∧ (∀ k q m, (jS s)[k]? = some q → m ∈ jMem s q.1 → I 177 (16 * k + m) = nI (jV s k m)) ∧ (∀ k q, (jS s)[k]? = some q → I 176 k = nI (jCo s r q.1))
def cuK (I I' : Nat → Nat → Int32) : Prop := ∀ q j, ¬ (q = 159 ∧ j = 21) → q ≠ 176 → q ≠ 177 → I' q j = I q j
theorem mnRep_of {I I' : Nat → Nat → Int32} {s : jN} (h : ∀ q j, (q = 159 ∧ j = 0) ∨ (160 ≤ q ∧ q ≤ 163) → I' q j = I q j) (hs : mnRep I s) : mnRep I' s := ⟨(h 159 0 (by omega)).trans hs.1, fun i hi => ⟨(h 160 i (by omega)).trans (hs.2 i hi).1, (h 161 i (by omega)).trans (hs.2 i hi).2.1, (h 162 i (by omega)).trans (hs.2 i hi).2.2.1, (h 163 i (by omega)).trans (hs.2 i hi).2.2.2⟩⟩
theorem msRep_of {I I' : Nat → Nat → Int32} {s : jN} {S : List (Nat × Nat)} (h : ∀ q j, (q = 159 ∧ j = 14) ∨ (171 ≤ q ∧ q ≤ 175) → I' q j = I q j) (hs : msRep I s S) : msRep I' s S := ⟨(h 159 14 (by omega)).trans hs.1, fun k q hq => by
  obtain ⟨a, b, c, d, e⟩ := hs.2 k q hq
  exact ⟨(h 171 k (by omega)).trans a, (h 172 k (by omega)).trans b, (h 173 k (by omega)).trans c, (h 174 k (by omega)).trans d, (h 175 k (by omega)).trans e⟩⟩
theorem mlRep_of {I I' : Nat → Nat → Int32} {r : jR} (h : ∀ q j, 164 ≤ q → q ≤ 169 → I' q j = I q j) (hl : mlRep I r) : mlRep I' r := ⟨hl.1, fun c hc => (h 164 c (by omega) (by omega)).trans (hl.2.1 c hc), fun c i j hc hi hj => ⟨(h 165 j (by omega) (by omega)).trans (hl.2.2.1 c i j hc hi hj).1, (h 166 j (by omega) (by omega)).trans (hl.2.2.1 c i j hc hi hj).2.1, fun q hq => (h 167 _ (by omega) (by omega)).trans ((hl.2.2.1 c i j hc hi hj).2.2 q hq)⟩, fun q hq => ⟨(h 168 q (by omega) (by omega)).trans (hl.2.2.2 q hq).1, (h 169 q (by omega) (by omega)).trans (hl.2.2.2 q hq).2⟩⟩
set_option maxHeartbeats 1000000 in
theorem ml_countIn {I : Nat → Nat → Int32} {L : Nat → Nat → Int64} {R : Nat → Nat → Option Nat} (hR : aRf R) {s : jN} (ho : jOk s) {r : jR} {S : List (Nat × Nat)} (hSs : S = jS s) {k : Nat} {q : Nat × Nat} (hq : S[k]? = some q) {v0 : Nat × (Nat → Nat → Nat)} {Q : Option Value → aH → Prop} (kk : ∀ (I2 : Nat → Nat → Int32), mvIn I2 s S k s.1 ((jML s q.1 s.1).foldl (jVm s S k) v0) → mnRep I2 s → msRep I2 s S → mlRep I2 r → (∀ j, I2 176 j = I 176 j) → cuK I I2 → aX mX11_count aE0 (sh0, I2, L, R) 156 [(0, .ref 159), (1, .int (nI k)), (2, .int (nI ((jML s q.1 s.1).foldl (jCoF s r q.1) 1))), (3, .int (nI s.1))] [] 0 0 Q) : ∀ (k9 i : Nat), i ≤ s.1 → s.1 - i = k9 → ∀ (I1 : Nat → Nat → Int32) (al : Nat) (v : Nat × (Nat → Nat → Nat)), mnRep I1 s → msRep I1 s S → mlRep I1 r → mvIn I1 s S k i v → al = (jML s q.1 i).foldl (jCoF s r q.1) 1 → v = (jML s q.1 i).foldl (jVm s S k) v0 → (∀ j, I1 176 j = I 176 j) → cuK I I1 → aX mX11_count aE0 (sh0, I1, L, R) 19 [(0, .ref 159), (1, .int (nI (k))), (2, .int (nI (al))), (3, .int (nI (i)))] [] 0 0 Q := by
  intro k9
  induction k9 using Nat.strongRecOn with
  | _ k9 ih =>
    intro i hi hk9 I1  al  v  hs hS hl hin hal hv h176 hk
    have hn := ho.1
    have hSl : S.length ≤ 31 := by rw [hSs]; exact jS_len s
    have hkl : k < S.length := (List.getElem?_eq_some_iff.mp hq).1
    have hqb := jS_in (s := s) (k := k) (q := q) (by rw [← hSs]; exact hq)
    have hbb := (jBase_in hqb.2.2).2.1
    have hrk := fun c (hc : c < 12) => (hl.1 c hc).1
    refine aX_iload_n dX11_count_19 rfl ?_
    refine aX_aload_n dX11_count_20 rfl ?_
    refine aX_get (v := .int (nI (s.1))) dX11_count_21 lfX11_150 s159 (congrArg Value.int (hs.1)) ?_
    refine nGe (tgt := 156) dX11_count_24 (by decide) (by first | omega | exact Nat.lt_of_le_of_lt (Nat.mod_le _ _) (by omega)) (by first | omega | exact Nat.lt_of_le_of_lt (Nat.mod_le _ _) (by omega)) (fun c1 => ?_) (fun c1 => ?_)
    · obtain rfl : i = s.1 := by omega
      rw [hal]
      exact kk I1 (by rw [← hv]; exact hin) hs hS hl h176 hk
    · refine aX_aload_n dX11_count_27 rfl ?_
      refine aX_iload_n dX11_count_28 rfl ?_
      refine aX_iload_n dX11_count_29 rfl ?_
      refine cVp (As := [.int (nI (k)), .int (nI (i))]) (st := []) (v := .int (bI (jOn s i q.1))) dX11_count_30 kX11_count_163 s159 aEok0 rfl rfl (Nat.le_of_ble_eq_true rfl) (m_sounds0 hR hs ho hS hSl hq (by omega)) ?_
      refine bEq (tgt := 150) dX11_count_33 (by decide) (fun c2 => ?_) (fun c2 => ?_)
      · have hon : jOn s i q.1 = false := c2
        refine nInc (lv' := [(0, .ref 159), (1, .int (nI (k))), (2, .int (nI (al))), (3, .int (nI (i + 1)))]) dX11_count_150 rfl rfl (by decide) rfl ?_
        refine aX_goto (tgt := 19) dX11_count_153 (by decide) ?_
        exact ih (s.1 - (i + 1)) (by omega) (i + 1) (by omega) rfl I1 al v hs hS hl (mvIn_off hin hq hon) (by rw [jML_f hon]; exact hal) (by rw [jML_f hon]; exact hv) h176 hk
      · have hon : jOn s i q.1 = true := c2
        refine aX_iload_n dX11_count_36 rfl ?_
        refine aX_iload_n dX11_count_37 rfl ?_
        refine aX_aload_n dX11_count_38 rfl ?_
        refine aX_get dX11_count_39 lfX11_60 s159 (f159_18 hR) ?_
        refine aX_iload_n dX11_count_42 rfl ?_
        refine nIald (v := nI (jBase s q.1)) dX11_count_43 s174 (by first | omega | exact Nat.lt_of_le_of_lt (Nat.mod_le _ _) (by omega)) (by decide) ((hS.2 k q hq).2.2.2.1) ?_
        refine nNe (tgt := 51) dX11_count_44 (by decide) (by first | omega | exact Nat.lt_of_le_of_lt (Nat.mod_le _ _) (by omega)) (by first | omega | exact Nat.lt_of_le_of_lt (Nat.mod_le _ _) (by omega)) (fun c3 => ?_) (fun c3 => ?_)
        · have hty : jTy s q.1 i < 12 := Nat.mod_lt _ (by decide)
          have hcf : jCoF s r q.1 al i = al * r.1 (jTy s q.1 i) := by unfold jCoF; rw [if_neg (by omega)]
          refine aX_aload_n dX11_count_51 rfl ?_
          refine aX_get dX11_count_52 lfX11_23 s159 (f159_5 hR) ?_
          refine aX_aload_n dX11_count_55 rfl ?_
          refine aX_iload_n dX11_count_56 rfl ?_
          refine aX_iload_n dX11_count_57 rfl ?_
          refine cVp (As := [.int (nI (k)), .int (nI (i))]) (st := [.ref 164, .int (nI (al))]) (v := .int (nI (jTy s q.1 i))) dX11_count_58 kX11_count_167 s159 aEok0 rfl rfl (Nat.le_of_ble_eq_true rfl) (m_typeOf hR hs ho hS hSl hq (by omega) hon) ?_
          refine nIald (v := nI (r.1 (jTy s q.1 i))) dX11_count_61 s164 (by first | omega | exact Nat.lt_of_le_of_lt (Nat.mod_le _ _) (by omega)) (by decide) (hl.2.1 _ hty) ?_
          refine nMul dX11_count_62 ?_
          refine aX_istore_n (lv' := [(0, .ref 159), (1, .int (nI (k))), (2, .int (nI (al * (r.1 (jTy s q.1 i))))), (3, .int (nI (i)))]) dX11_count_63 (by decide) rfl ?_
          refine aX_aload_n dX11_count_64 rfl ?_
          refine aX_get dX11_count_65 lfX11_19 s159 (f159_4 hR) ?_
          refine aX_iload_n dX11_count_68 rfl ?_
          refine nZald (v := bI (s.2.2.2.2 i)) dX11_count_69 s163 (by first | omega | exact Nat.lt_of_le_of_lt (Nat.mod_le _ _) (by omega)) (by decide) ((hs.2 i (by omega)).2.2.2) ?_
          refine bEq (tgt := 92) dX11_count_70 (by decide) (fun c4 => ?_) (fun c4 => ?_)
          · refine aX_iconst (v := nI 0) dX11_count_92 (by decide) ?_
            refine aX_istore (lv' := [(0, .ref 159), (1, .int (nI (k))), (2, .int (nI (al * (r.1 (jTy s q.1 i))))), (3, .int (nI (i))), (4, .int (nI (0)))]) dX11_count_93 (by decide) rfl ?_
            refine aX_aload_n dX11_count_95 rfl ?_
            refine aX_get dX11_count_96 lfX11_69 s159 (f159_22 hR) ?_
            refine aX_bipush (v := nI 16) dX11_count_99 (by decide) ?_
            refine aX_iload_n dX11_count_101 rfl ?_
            refine nMul dX11_count_102 ?_
            refine aX_iload_n dX11_count_103 rfl ?_
            refine nAdd dX11_count_104 ?_
            refine aX_iload dX11_count_105 rfl ?_
            refine nIf_eq (tgt := 126) dX11_count_107 (by decide) (by first | omega | exact Nat.lt_of_le_of_lt (Nat.mod_le _ _) (by omega)) (fun c5 => ?_) (fun c5 => ?_)
            · refine aX_aload_n dX11_count_126 rfl ?_
              refine aX_get (v := .int (nI (v.1))) dX11_count_127 lfX11_160 s159 (congrArg Value.int (hin.1)) ?_
              refine nIast dX11_count_130 s177 (by first | omega | exact Nat.lt_of_le_of_lt (Nat.mod_le _ _) (by omega)) (by decide) ?_
              refine aX_aload_n dX11_count_131 rfl ?_
              refine aX_dup dX11_count_132 rfl ?_
              refine aX_get (v := .int (nI (v.1))) dX11_count_133 lfX11_160 s159 (congrArg Value.int (show (aU I1 177 ((16 * k) + i) (nI (v.1))) 159 21 = nI v.1 by rw [aU_n (by omega)]; exact hin.1)) ?_
              refine aX_iload dX11_count_136 rfl ?_
              refine nIf_eq (tgt := 145) dX11_count_138 (by decide) (by first | omega | exact Nat.lt_of_le_of_lt (Nat.mod_le _ _) (by omega)) (fun c6 => ?_) (fun c6 => ?_)
              · refine aX_iconst (v := nI 1) dX11_count_145 (by decide) ?_
                refine nAdd dX11_count_146 ?_
                refine pI dX11_count_147 lfX11_160 (fun _ _ _ hq => by cases hq; exact Or.inl rfl) s159 rfl ?_
                refine nInc (lv' := [(0, .ref 159), (1, .int (nI (k))), (2, .int (nI (al * (r.1 (jTy s q.1 i))))), (3, .int (nI (i + 1))), (4, .int (nI (0)))]) dX11_count_150 rfl rfl (by decide) rfl ?_
                refine aX_goto (tgt := 19) dX11_count_153 (by decide) ?_
                refine aX_lv (lv' := [(0, .ref 159), (1, .int (nI (k))), (2, .int (nI (al * (r.1 (jTy s q.1 i))))), (3, .int (nI (i + 1)))]) [0, 1, 2, 3] rfl ?_
                obtain ⟨I2, hI2⟩ : ∃ y, y = (aU (aU I1 177 ((16 * k) + i) (nI (v.1))) 159 21 (nI (v.1 + 1))) := ⟨_, rfl⟩
                rw [← hI2]
                have hk2 : ∀ q j, ¬ (q = 159 ∧ j = 21) → q ≠ 177 → I2 q j = I1 q j := fun q j g1 g2 => by rw [hI2, aU_n (by omega), aU_n (by omega)]
                have hin2 : mvIn I2 s S k (i + 1) (v.1 + 1, aU v.2 k i (v.1)) := mvIn_on hn (by omega) hin hq hon (by rw [hI2, aU_s]; try rfl) (by rw [hI2, aU_n (by omega), aU_s]) (fun j hj => by rw [hI2, aU_n (by omega), aU_n (by omega)])
                have hvs : jVm s S k v i = (v.1 + 1, aU v.2 k i (v.1)) := by rw [jVm_f (Or.inl c4)]
                exact ih (s.1 - (i + 1)) (by omega) (i + 1) (by omega) rfl I2 _ _ (mnRep_of (fun q j g => hk2 q j (by omega) (by omega)) hs) (msRep_of (fun q j g => hk2 q j (by omega) (by omega)) hS) (mlRep_of (fun q j g1 g2 => hk2 q j (by omega) (by omega)) hl) hin2 (by rw [jML_t hon, List.foldl_append, ← hal]; show _ = jCoF s r q.1 al i; rw [hcf]) (by rw [jML_t hon, List.foldl_append, ← hv]; show _ = jVm s S k v i; rw [hvs]) (fun j => (hk2 176 j (by omega) (by omega)).trans (h176 j)) (fun q j g1 g2 g3 => (hk2 q j g1 g3).trans (hk q j g1 g2 g3))
              · exact absurd c6 (by decide)
            · exact absurd c5 (by decide)
          · refine aX_iload_n dX11_count_73 rfl ?_
            refine nIf_le (tgt := 92) dX11_count_74 (by decide) (by first | omega | exact Nat.lt_of_le_of_lt (Nat.mod_le _ _) (by omega)) (fun c7 => ?_) (fun c7 => ?_)
            · refine aX_iconst (v := nI 0) dX11_count_92 (by decide) ?_
              refine aX_istore (lv' := [(0, .ref 159), (1, .int (nI (k))), (2, .int (nI (al * (r.1 (jTy s q.1 i))))), (3, .int (nI (i))), (4, .int (nI (0)))]) dX11_count_93 (by decide) rfl ?_
              refine aX_aload_n dX11_count_95 rfl ?_
              refine aX_get dX11_count_96 lfX11_69 s159 (f159_22 hR) ?_
              refine aX_bipush (v := nI 16) dX11_count_99 (by decide) ?_
              refine aX_iload_n dX11_count_101 rfl ?_
              refine nMul dX11_count_102 ?_
              refine aX_iload_n dX11_count_103 rfl ?_
              refine nAdd dX11_count_104 ?_
              refine aX_iload dX11_count_105 rfl ?_
              refine nIf_eq (tgt := 126) dX11_count_107 (by decide) (by first | omega | exact Nat.lt_of_le_of_lt (Nat.mod_le _ _) (by omega)) (fun c8 => ?_) (fun c8 => ?_)
              · refine aX_aload_n dX11_count_126 rfl ?_
                refine aX_get (v := .int (nI (v.1))) dX11_count_127 lfX11_160 s159 (congrArg Value.int (hin.1)) ?_
                refine nIast dX11_count_130 s177 (by first | omega | exact Nat.lt_of_le_of_lt (Nat.mod_le _ _) (by omega)) (by decide) ?_
                refine aX_aload_n dX11_count_131 rfl ?_
                refine aX_dup dX11_count_132 rfl ?_
                refine aX_get (v := .int (nI (v.1))) dX11_count_133 lfX11_160 s159 (congrArg Value.int (show (aU I1 177 ((16 * k) + i) (nI (v.1))) 159 21 = nI v.1 by rw [aU_n (by omega)]; exact hin.1)) ?_
                refine aX_iload dX11_count_136 rfl ?_
                refine nIf_eq (tgt := 145) dX11_count_138 (by decide) (by first | omega | exact Nat.lt_of_le_of_lt (Nat.mod_le _ _) (by omega)) (fun c9 => ?_) (fun c9 => ?_)
                · refine aX_iconst (v := nI 1) dX11_count_145 (by decide) ?_
                  refine nAdd dX11_count_146 ?_
                  refine pI dX11_count_147 lfX11_160 (fun _ _ _ hq => by cases hq; exact Or.inl rfl) s159 rfl ?_
                  refine nInc (lv' := [(0, .ref 159), (1, .int (nI (k))), (2, .int (nI (al * (r.1 (jTy s q.1 i))))), (3, .int (nI (i + 1))), (4, .int (nI (0)))]) dX11_count_150 rfl rfl (by decide) rfl ?_
                  refine aX_goto (tgt := 19) dX11_count_153 (by decide) ?_
                  refine aX_lv (lv' := [(0, .ref 159), (1, .int (nI (k))), (2, .int (nI (al * (r.1 (jTy s q.1 i))))), (3, .int (nI (i + 1)))]) [0, 1, 2, 3] rfl ?_
                  obtain ⟨I2, hI2⟩ : ∃ y, y = (aU (aU I1 177 ((16 * k) + i) (nI (v.1))) 159 21 (nI (v.1 + 1))) := ⟨_, rfl⟩
                  rw [← hI2]
                  have hk2 : ∀ q j, ¬ (q = 159 ∧ j = 21) → q ≠ 177 → I2 q j = I1 q j := fun q j g1 g2 => by rw [hI2, aU_n (by omega), aU_n (by omega)]
                  have hin2 : mvIn I2 s S k (i + 1) (v.1 + 1, aU v.2 k i (v.1)) := mvIn_on hn (by omega) hin hq hon (by rw [hI2, aU_s]; try rfl) (by rw [hI2, aU_n (by omega), aU_s]) (fun j hj => by rw [hI2, aU_n (by omega), aU_n (by omega)])
                  have hvs : jVm s S k v i = (v.1 + 1, aU v.2 k i (v.1)) := by rw [jVm_f (Or.inr (Or.inl (by omega)))]
                  exact ih (s.1 - (i + 1)) (by omega) (i + 1) (by omega) rfl I2 _ _ (mnRep_of (fun q j g => hk2 q j (by omega) (by omega)) hs) (msRep_of (fun q j g => hk2 q j (by omega) (by omega)) hS) (mlRep_of (fun q j g1 g2 => hk2 q j (by omega) (by omega)) hl) hin2 (by rw [jML_t hon, List.foldl_append, ← hal]; show _ = jCoF s r q.1 al i; rw [hcf]) (by rw [jML_t hon, List.foldl_append, ← hv]; show _ = jVm s S k v i; rw [hvs]) (fun j => (hk2 176 j (by omega) (by omega)).trans (h176 j)) (fun q j g1 g2 g3 => (hk2 q j g1 g3).trans (hk q j g1 g2 g3))
                · exact absurd c9 (by decide)
              · exact absurd c8 (by decide)
            · obtain ⟨q0, hq0⟩ : ∃ q0, S[k - 1]? = some q0 := ⟨_, List.getElem?_eq_getElem (by omega)⟩
              refine aX_aload_n dX11_count_77 rfl ?_
              refine aX_iload_n dX11_count_78 rfl ?_
              refine aX_iconst (v := nI 1) dX11_count_79 (by decide) ?_
              refine nSub dX11_count_80 (by first | omega | exact Nat.lt_of_le_of_lt (Nat.mod_le _ _) (by omega)) ?_
              refine aX_iload_n dX11_count_81 rfl ?_
              refine cVp (As := [.int (nI (k - 1)), .int (nI (i))]) (st := []) (v := .int (bI (jOn s i q0.1))) dX11_count_82 kX11_count_163 s159 aEok0 rfl rfl (Nat.le_of_ble_eq_true rfl) (m_sounds0 hR hs ho hS hSl hq0 (by omega)) ?_
              refine bEq (tgt := 92) dX11_count_85 (by decide) (fun c10 => ?_) (fun c10 => ?_)
              · refine aX_iconst (v := nI 0) dX11_count_92 (by decide) ?_
                refine aX_istore (lv' := [(0, .ref 159), (1, .int (nI (k))), (2, .int (nI (al * (r.1 (jTy s q.1 i))))), (3, .int (nI (i))), (4, .int (nI (0)))]) dX11_count_93 (by decide) rfl ?_
                refine aX_aload_n dX11_count_95 rfl ?_
                refine aX_get dX11_count_96 lfX11_69 s159 (f159_22 hR) ?_
                refine aX_bipush (v := nI 16) dX11_count_99 (by decide) ?_
                refine aX_iload_n dX11_count_101 rfl ?_
                refine nMul dX11_count_102 ?_
                refine aX_iload_n dX11_count_103 rfl ?_
                refine nAdd dX11_count_104 ?_
                refine aX_iload dX11_count_105 rfl ?_
                refine nIf_eq (tgt := 126) dX11_count_107 (by decide) (by first | omega | exact Nat.lt_of_le_of_lt (Nat.mod_le _ _) (by omega)) (fun c11 => ?_) (fun c11 => ?_)
                · refine aX_aload_n dX11_count_126 rfl ?_
                  refine aX_get (v := .int (nI (v.1))) dX11_count_127 lfX11_160 s159 (congrArg Value.int (hin.1)) ?_
                  refine nIast dX11_count_130 s177 (by first | omega | exact Nat.lt_of_le_of_lt (Nat.mod_le _ _) (by omega)) (by decide) ?_
                  refine aX_aload_n dX11_count_131 rfl ?_
                  refine aX_dup dX11_count_132 rfl ?_
                  refine aX_get (v := .int (nI (v.1))) dX11_count_133 lfX11_160 s159 (congrArg Value.int (show (aU I1 177 ((16 * k) + i) (nI (v.1))) 159 21 = nI v.1 by rw [aU_n (by omega)]; exact hin.1)) ?_
                  refine aX_iload dX11_count_136 rfl ?_
                  refine nIf_eq (tgt := 145) dX11_count_138 (by decide) (by first | omega | exact Nat.lt_of_le_of_lt (Nat.mod_le _ _) (by omega)) (fun c12 => ?_) (fun c12 => ?_)
                  · refine aX_iconst (v := nI 1) dX11_count_145 (by decide) ?_
                    refine nAdd dX11_count_146 ?_
                    refine pI dX11_count_147 lfX11_160 (fun _ _ _ hq => by cases hq; exact Or.inl rfl) s159 rfl ?_
                    refine nInc (lv' := [(0, .ref 159), (1, .int (nI (k))), (2, .int (nI (al * (r.1 (jTy s q.1 i))))), (3, .int (nI (i + 1))), (4, .int (nI (0)))]) dX11_count_150 rfl rfl (by decide) rfl ?_
                    refine aX_goto (tgt := 19) dX11_count_153 (by decide) ?_
                    refine aX_lv (lv' := [(0, .ref 159), (1, .int (nI (k))), (2, .int (nI (al * (r.1 (jTy s q.1 i))))), (3, .int (nI (i + 1)))]) [0, 1, 2, 3] rfl ?_
                    obtain ⟨I2, hI2⟩ : ∃ y, y = (aU (aU I1 177 ((16 * k) + i) (nI (v.1))) 159 21 (nI (v.1 + 1))) := ⟨_, rfl⟩
                    rw [← hI2]
                    have hk2 : ∀ q j, ¬ (q = 159 ∧ j = 21) → q ≠ 177 → I2 q j = I1 q j := fun q j g1 g2 => by rw [hI2, aU_n (by omega), aU_n (by omega)]
                    have hin2 : mvIn I2 s S k (i + 1) (v.1 + 1, aU v.2 k i (v.1)) := mvIn_on hn (by omega) hin hq hon (by rw [hI2, aU_s]; try rfl) (by rw [hI2, aU_n (by omega), aU_s]) (fun j hj => by rw [hI2, aU_n (by omega), aU_n (by omega)])
                    have hvs : jVm s S k v i = (v.1 + 1, aU v.2 k i (v.1)) := by rw [jVm_f (Or.inr (Or.inr (by rw [getD_of hq0]; exact c10)))]
                    exact ih (s.1 - (i + 1)) (by omega) (i + 1) (by omega) rfl I2 _ _ (mnRep_of (fun q j g => hk2 q j (by omega) (by omega)) hs) (msRep_of (fun q j g => hk2 q j (by omega) (by omega)) hS) (mlRep_of (fun q j g1 g2 => hk2 q j (by omega) (by omega)) hl) hin2 (by rw [jML_t hon, List.foldl_append, ← hal]; show _ = jCoF s r q.1 al i; rw [hcf]) (by rw [jML_t hon, List.foldl_append, ← hv]; show _ = jVm s S k v i; rw [hvs]) (fun j => (hk2 176 j (by omega) (by omega)).trans (h176 j)) (fun q j g1 g2 g3 => (hk2 q j g1 g3).trans (hk q j g1 g2 g3))
                  · exact absurd c12 (by decide)
                · exact absurd c11 (by decide)
              · have hprev : I1 177 (16 * (k - 1) + i) = nI (v.2 (k - 1) i) := hin.2.1 (k - 1) q0 i (by omega) hq0 (jML_mem.mpr ⟨by omega, c10⟩)
                refine aX_iconst (v := nI 1) dX11_count_88 (by decide) ?_
                refine aX_goto (tgt := 93) dX11_count_89 (by decide) ?_
                refine aX_istore (lv' := [(0, .ref 159), (1, .int (nI (k))), (2, .int (nI (al * (r.1 (jTy s q.1 i))))), (3, .int (nI (i))), (4, .int (nI (1)))]) dX11_count_93 (by decide) rfl ?_
                refine aX_aload_n dX11_count_95 rfl ?_
                refine aX_get dX11_count_96 lfX11_69 s159 (f159_22 hR) ?_
                refine aX_bipush (v := nI 16) dX11_count_99 (by decide) ?_
                refine aX_iload_n dX11_count_101 rfl ?_
                refine nMul dX11_count_102 ?_
                refine aX_iload_n dX11_count_103 rfl ?_
                refine nAdd dX11_count_104 ?_
                refine aX_iload dX11_count_105 rfl ?_
                refine nIf_eq (tgt := 126) dX11_count_107 (by decide) (by first | omega | exact Nat.lt_of_le_of_lt (Nat.mod_le _ _) (by omega)) (fun c13 => ?_) (fun c13 => ?_)
                · exact absurd c13 (by decide)
                · refine aX_aload_n dX11_count_110 rfl ?_
                  refine aX_get dX11_count_111 lfX11_69 s159 (f159_22 hR) ?_
                  refine aX_bipush (v := nI 16) dX11_count_114 (by decide) ?_
                  refine aX_iload_n dX11_count_116 rfl ?_
                  refine aX_iconst (v := nI 1) dX11_count_117 (by decide) ?_
                  refine nSub dX11_count_118 (by first | omega | exact Nat.lt_of_le_of_lt (Nat.mod_le _ _) (by omega)) ?_
                  refine nMul dX11_count_119 ?_
                  refine aX_iload_n dX11_count_120 rfl ?_
                  refine nAdd dX11_count_121 ?_
                  refine nIald (v := nI (v.2 (k - 1) i)) dX11_count_122 s177 (by first | omega | exact Nat.lt_of_le_of_lt (Nat.mod_le _ _) (by omega)) (by decide) (hprev) ?_
                  refine aX_goto (tgt := 130) dX11_count_123 (by decide) ?_
                  refine nIast dX11_count_130 s177 (by first | omega | exact Nat.lt_of_le_of_lt (Nat.mod_le _ _) (by omega)) (by decide) ?_
                  refine aX_aload_n dX11_count_131 rfl ?_
                  refine aX_dup dX11_count_132 rfl ?_
                  refine aX_get (v := .int (nI (v.1))) dX11_count_133 lfX11_160 s159 (congrArg Value.int (show (aU I1 177 ((16 * k) + i) (nI (v.2 (k - 1) i))) 159 21 = nI v.1 by rw [aU_n (by omega)]; exact hin.1)) ?_
                  refine aX_iload dX11_count_136 rfl ?_
                  refine nIf_eq (tgt := 145) dX11_count_138 (by decide) (by first | omega | exact Nat.lt_of_le_of_lt (Nat.mod_le _ _) (by omega)) (fun c14 => ?_) (fun c14 => ?_)
                  · exact absurd c14 (by decide)
                  · refine aX_iconst (v := nI 0) dX11_count_141 (by decide) ?_
                    refine aX_goto (tgt := 146) dX11_count_142 (by decide) ?_
                    refine nAdd dX11_count_146 ?_
                    refine pI dX11_count_147 lfX11_160 (fun _ _ _ hq => by cases hq; exact Or.inl rfl) s159 rfl ?_
                    refine nInc (lv' := [(0, .ref 159), (1, .int (nI (k))), (2, .int (nI (al * (r.1 (jTy s q.1 i))))), (3, .int (nI (i + 1))), (4, .int (nI (1)))]) dX11_count_150 rfl rfl (by decide) rfl ?_
                    refine aX_goto (tgt := 19) dX11_count_153 (by decide) ?_
                    refine aX_lv (lv' := [(0, .ref 159), (1, .int (nI (k))), (2, .int (nI (al * (r.1 (jTy s q.1 i))))), (3, .int (nI (i + 1)))]) [0, 1, 2, 3] rfl ?_
                    obtain ⟨I2, hI2⟩ : ∃ y, y = (aU (aU I1 177 ((16 * k) + i) (nI (v.2 (k - 1) i))) 159 21 (nI (v.1 + 0))) := ⟨_, rfl⟩
                    rw [← hI2]
                    have hk2 : ∀ q j, ¬ (q = 159 ∧ j = 21) → q ≠ 177 → I2 q j = I1 q j := fun q j g1 g2 => by rw [hI2, aU_n (by omega), aU_n (by omega)]
                    have hin2 : mvIn I2 s S k (i + 1) (v.1, aU v.2 k i (v.2 (k - 1) i)) := mvIn_on hn (by omega) hin hq hon (by rw [hI2, aU_s]; try rfl) (by rw [hI2, aU_n (by omega), aU_s]) (fun j hj => by rw [hI2, aU_n (by omega), aU_n (by omega)])
                    have hvs : jVm s S k v i = (v.1, aU v.2 k i (v.2 (k - 1) i)) := by rw [jVm_t c4 (by omega) (by rw [getD_of hq0]; exact c10)]
                    exact ih (s.1 - (i + 1)) (by omega) (i + 1) (by omega) rfl I2 _ _ (mnRep_of (fun q j g => hk2 q j (by omega) (by omega)) hs) (msRep_of (fun q j g => hk2 q j (by omega) (by omega)) hS) (mlRep_of (fun q j g1 g2 => hk2 q j (by omega) (by omega)) hl) hin2 (by rw [jML_t hon, List.foldl_append, ← hal]; show _ = jCoF s r q.1 al i; rw [hcf]) (by rw [jML_t hon, List.foldl_append, ← hv]; show _ = jVm s S k v i; rw [hvs]) (fun j => (hk2 176 j (by omega) (by omega)).trans (h176 j)) (fun q j g1 g2 g3 => (hk2 q j g1 g3).trans (hk q j g1 g2 g3))
        · have hcf : jCoF s r q.1 al i = al * 1 := by unfold jCoF; rw [if_pos (by omega), Nat.mul_one]
          refine aX_iconst (v := nI 1) dX11_count_47 (by decide) ?_
          refine aX_goto (tgt := 62) dX11_count_48 (by decide) ?_
          refine nMul dX11_count_62 ?_
          refine aX_istore_n (lv' := [(0, .ref 159), (1, .int (nI (k))), (2, .int (nI (al * 1))), (3, .int (nI (i)))]) dX11_count_63 (by decide) rfl ?_
          refine aX_aload_n dX11_count_64 rfl ?_
          refine aX_get dX11_count_65 lfX11_19 s159 (f159_4 hR) ?_
          refine aX_iload_n dX11_count_68 rfl ?_
          refine nZald (v := bI (s.2.2.2.2 i)) dX11_count_69 s163 (by first | omega | exact Nat.lt_of_le_of_lt (Nat.mod_le _ _) (by omega)) (by decide) ((hs.2 i (by omega)).2.2.2) ?_
          refine bEq (tgt := 92) dX11_count_70 (by decide) (fun c15 => ?_) (fun c15 => ?_)
          · refine aX_iconst (v := nI 0) dX11_count_92 (by decide) ?_
            refine aX_istore (lv' := [(0, .ref 159), (1, .int (nI (k))), (2, .int (nI (al * 1))), (3, .int (nI (i))), (4, .int (nI (0)))]) dX11_count_93 (by decide) rfl ?_
            refine aX_aload_n dX11_count_95 rfl ?_
            refine aX_get dX11_count_96 lfX11_69 s159 (f159_22 hR) ?_
            refine aX_bipush (v := nI 16) dX11_count_99 (by decide) ?_
            refine aX_iload_n dX11_count_101 rfl ?_
            refine nMul dX11_count_102 ?_
            refine aX_iload_n dX11_count_103 rfl ?_
            refine nAdd dX11_count_104 ?_
            refine aX_iload dX11_count_105 rfl ?_
            refine nIf_eq (tgt := 126) dX11_count_107 (by decide) (by first | omega | exact Nat.lt_of_le_of_lt (Nat.mod_le _ _) (by omega)) (fun c16 => ?_) (fun c16 => ?_)
            · refine aX_aload_n dX11_count_126 rfl ?_
              refine aX_get (v := .int (nI (v.1))) dX11_count_127 lfX11_160 s159 (congrArg Value.int (hin.1)) ?_
              refine nIast dX11_count_130 s177 (by first | omega | exact Nat.lt_of_le_of_lt (Nat.mod_le _ _) (by omega)) (by decide) ?_
              refine aX_aload_n dX11_count_131 rfl ?_
              refine aX_dup dX11_count_132 rfl ?_
              refine aX_get (v := .int (nI (v.1))) dX11_count_133 lfX11_160 s159 (congrArg Value.int (show (aU I1 177 ((16 * k) + i) (nI (v.1))) 159 21 = nI v.1 by rw [aU_n (by omega)]; exact hin.1)) ?_
              refine aX_iload dX11_count_136 rfl ?_
              refine nIf_eq (tgt := 145) dX11_count_138 (by decide) (by first | omega | exact Nat.lt_of_le_of_lt (Nat.mod_le _ _) (by omega)) (fun c17 => ?_) (fun c17 => ?_)
              · refine aX_iconst (v := nI 1) dX11_count_145 (by decide) ?_
                refine nAdd dX11_count_146 ?_
                refine pI dX11_count_147 lfX11_160 (fun _ _ _ hq => by cases hq; exact Or.inl rfl) s159 rfl ?_
                refine nInc (lv' := [(0, .ref 159), (1, .int (nI (k))), (2, .int (nI (al * 1))), (3, .int (nI (i + 1))), (4, .int (nI (0)))]) dX11_count_150 rfl rfl (by decide) rfl ?_
                refine aX_goto (tgt := 19) dX11_count_153 (by decide) ?_
                refine aX_lv (lv' := [(0, .ref 159), (1, .int (nI (k))), (2, .int (nI (al * 1))), (3, .int (nI (i + 1)))]) [0, 1, 2, 3] rfl ?_
                obtain ⟨I2, hI2⟩ : ∃ y, y = (aU (aU I1 177 ((16 * k) + i) (nI (v.1))) 159 21 (nI (v.1 + 1))) := ⟨_, rfl⟩
                rw [← hI2]
                have hk2 : ∀ q j, ¬ (q = 159 ∧ j = 21) → q ≠ 177 → I2 q j = I1 q j := fun q j g1 g2 => by rw [hI2, aU_n (by omega), aU_n (by omega)]
                have hin2 : mvIn I2 s S k (i + 1) (v.1 + 1, aU v.2 k i (v.1)) := mvIn_on hn (by omega) hin hq hon (by rw [hI2, aU_s]; try rfl) (by rw [hI2, aU_n (by omega), aU_s]) (fun j hj => by rw [hI2, aU_n (by omega), aU_n (by omega)])
                have hvs : jVm s S k v i = (v.1 + 1, aU v.2 k i (v.1)) := by rw [jVm_f (Or.inl c15)]
                exact ih (s.1 - (i + 1)) (by omega) (i + 1) (by omega) rfl I2 _ _ (mnRep_of (fun q j g => hk2 q j (by omega) (by omega)) hs) (msRep_of (fun q j g => hk2 q j (by omega) (by omega)) hS) (mlRep_of (fun q j g1 g2 => hk2 q j (by omega) (by omega)) hl) hin2 (by rw [jML_t hon, List.foldl_append, ← hal]; show _ = jCoF s r q.1 al i; rw [hcf]) (by rw [jML_t hon, List.foldl_append, ← hv]; show _ = jVm s S k v i; rw [hvs]) (fun j => (hk2 176 j (by omega) (by omega)).trans (h176 j)) (fun q j g1 g2 g3 => (hk2 q j g1 g3).trans (hk q j g1 g2 g3))
              · exact absurd c17 (by decide)
            · exact absurd c16 (by decide)
          · refine aX_iload_n dX11_count_73 rfl ?_
            refine nIf_le (tgt := 92) dX11_count_74 (by decide) (by first | omega | exact Nat.lt_of_le_of_lt (Nat.mod_le _ _) (by omega)) (fun c18 => ?_) (fun c18 => ?_)
            · refine aX_iconst (v := nI 0) dX11_count_92 (by decide) ?_
              refine aX_istore (lv' := [(0, .ref 159), (1, .int (nI (k))), (2, .int (nI (al * 1))), (3, .int (nI (i))), (4, .int (nI (0)))]) dX11_count_93 (by decide) rfl ?_
              refine aX_aload_n dX11_count_95 rfl ?_
              refine aX_get dX11_count_96 lfX11_69 s159 (f159_22 hR) ?_
              refine aX_bipush (v := nI 16) dX11_count_99 (by decide) ?_
              refine aX_iload_n dX11_count_101 rfl ?_
              refine nMul dX11_count_102 ?_
              refine aX_iload_n dX11_count_103 rfl ?_
              refine nAdd dX11_count_104 ?_
              refine aX_iload dX11_count_105 rfl ?_
              refine nIf_eq (tgt := 126) dX11_count_107 (by decide) (by first | omega | exact Nat.lt_of_le_of_lt (Nat.mod_le _ _) (by omega)) (fun c19 => ?_) (fun c19 => ?_)
              · refine aX_aload_n dX11_count_126 rfl ?_
                refine aX_get (v := .int (nI (v.1))) dX11_count_127 lfX11_160 s159 (congrArg Value.int (hin.1)) ?_
                refine nIast dX11_count_130 s177 (by first | omega | exact Nat.lt_of_le_of_lt (Nat.mod_le _ _) (by omega)) (by decide) ?_
                refine aX_aload_n dX11_count_131 rfl ?_
                refine aX_dup dX11_count_132 rfl ?_
                refine aX_get (v := .int (nI (v.1))) dX11_count_133 lfX11_160 s159 (congrArg Value.int (show (aU I1 177 ((16 * k) + i) (nI (v.1))) 159 21 = nI v.1 by rw [aU_n (by omega)]; exact hin.1)) ?_
                refine aX_iload dX11_count_136 rfl ?_
                refine nIf_eq (tgt := 145) dX11_count_138 (by decide) (by first | omega | exact Nat.lt_of_le_of_lt (Nat.mod_le _ _) (by omega)) (fun c20 => ?_) (fun c20 => ?_)
                · refine aX_iconst (v := nI 1) dX11_count_145 (by decide) ?_
                  refine nAdd dX11_count_146 ?_
                  refine pI dX11_count_147 lfX11_160 (fun _ _ _ hq => by cases hq; exact Or.inl rfl) s159 rfl ?_
                  refine nInc (lv' := [(0, .ref 159), (1, .int (nI (k))), (2, .int (nI (al * 1))), (3, .int (nI (i + 1))), (4, .int (nI (0)))]) dX11_count_150 rfl rfl (by decide) rfl ?_
                  refine aX_goto (tgt := 19) dX11_count_153 (by decide) ?_
                  refine aX_lv (lv' := [(0, .ref 159), (1, .int (nI (k))), (2, .int (nI (al * 1))), (3, .int (nI (i + 1)))]) [0, 1, 2, 3] rfl ?_
                  obtain ⟨I2, hI2⟩ : ∃ y, y = (aU (aU I1 177 ((16 * k) + i) (nI (v.1))) 159 21 (nI (v.1 + 1))) := ⟨_, rfl⟩
                  rw [← hI2]
                  have hk2 : ∀ q j, ¬ (q = 159 ∧ j = 21) → q ≠ 177 → I2 q j = I1 q j := fun q j g1 g2 => by rw [hI2, aU_n (by omega), aU_n (by omega)]
                  have hin2 : mvIn I2 s S k (i + 1) (v.1 + 1, aU v.2 k i (v.1)) := mvIn_on hn (by omega) hin hq hon (by rw [hI2, aU_s]; try rfl) (by rw [hI2, aU_n (by omega), aU_s]) (fun j hj => by rw [hI2, aU_n (by omega), aU_n (by omega)])
                  have hvs : jVm s S k v i = (v.1 + 1, aU v.2 k i (v.1)) := by rw [jVm_f (Or.inr (Or.inl (by omega)))]
                  exact ih (s.1 - (i + 1)) (by omega) (i + 1) (by omega) rfl I2 _ _ (mnRep_of (fun q j g => hk2 q j (by omega) (by omega)) hs) (msRep_of (fun q j g => hk2 q j (by omega) (by omega)) hS) (mlRep_of (fun q j g1 g2 => hk2 q j (by omega) (by omega)) hl) hin2 (by rw [jML_t hon, List.foldl_append, ← hal]; show _ = jCoF s r q.1 al i; rw [hcf]) (by rw [jML_t hon, List.foldl_append, ← hv]; show _ = jVm s S k v i; rw [hvs]) (fun j => (hk2 176 j (by omega) (by omega)).trans (h176 j)) (fun q j g1 g2 g3 => (hk2 q j g1 g3).trans (hk q j g1 g2 g3))
                · exact absurd c20 (by decide)
              · exact absurd c19 (by decide)
            · obtain ⟨q0, hq0⟩ : ∃ q0, S[k - 1]? = some q0 := ⟨_, List.getElem?_eq_getElem (by omega)⟩
              refine aX_aload_n dX11_count_77 rfl ?_
              refine aX_iload_n dX11_count_78 rfl ?_
              refine aX_iconst (v := nI 1) dX11_count_79 (by decide) ?_
              refine nSub dX11_count_80 (by first | omega | exact Nat.lt_of_le_of_lt (Nat.mod_le _ _) (by omega)) ?_
              refine aX_iload_n dX11_count_81 rfl ?_
              refine cVp (As := [.int (nI (k - 1)), .int (nI (i))]) (st := []) (v := .int (bI (jOn s i q0.1))) dX11_count_82 kX11_count_163 s159 aEok0 rfl rfl (Nat.le_of_ble_eq_true rfl) (m_sounds0 hR hs ho hS hSl hq0 (by omega)) ?_
              refine bEq (tgt := 92) dX11_count_85 (by decide) (fun c21 => ?_) (fun c21 => ?_)
              · refine aX_iconst (v := nI 0) dX11_count_92 (by decide) ?_
                refine aX_istore (lv' := [(0, .ref 159), (1, .int (nI (k))), (2, .int (nI (al * 1))), (3, .int (nI (i))), (4, .int (nI (0)))]) dX11_count_93 (by decide) rfl ?_
                refine aX_aload_n dX11_count_95 rfl ?_
                refine aX_get dX11_count_96 lfX11_69 s159 (f159_22 hR) ?_
                refine aX_bipush (v := nI 16) dX11_count_99 (by decide) ?_
                refine aX_iload_n dX11_count_101 rfl ?_
                refine nMul dX11_count_102 ?_
                refine aX_iload_n dX11_count_103 rfl ?_
                refine nAdd dX11_count_104 ?_
                refine aX_iload dX11_count_105 rfl ?_
                refine nIf_eq (tgt := 126) dX11_count_107 (by decide) (by first | omega | exact Nat.lt_of_le_of_lt (Nat.mod_le _ _) (by omega)) (fun c22 => ?_) (fun c22 => ?_)
                · refine aX_aload_n dX11_count_126 rfl ?_
                  refine aX_get (v := .int (nI (v.1))) dX11_count_127 lfX11_160 s159 (congrArg Value.int (hin.1)) ?_
                  refine nIast dX11_count_130 s177 (by first | omega | exact Nat.lt_of_le_of_lt (Nat.mod_le _ _) (by omega)) (by decide) ?_
                  refine aX_aload_n dX11_count_131 rfl ?_
                  refine aX_dup dX11_count_132 rfl ?_
                  refine aX_get (v := .int (nI (v.1))) dX11_count_133 lfX11_160 s159 (congrArg Value.int (show (aU I1 177 ((16 * k) + i) (nI (v.1))) 159 21 = nI v.1 by rw [aU_n (by omega)]; exact hin.1)) ?_
                  refine aX_iload dX11_count_136 rfl ?_
                  refine nIf_eq (tgt := 145) dX11_count_138 (by decide) (by first | omega | exact Nat.lt_of_le_of_lt (Nat.mod_le _ _) (by omega)) (fun c23 => ?_) (fun c23 => ?_)
                  · refine aX_iconst (v := nI 1) dX11_count_145 (by decide) ?_
                    refine nAdd dX11_count_146 ?_
                    refine pI dX11_count_147 lfX11_160 (fun _ _ _ hq => by cases hq; exact Or.inl rfl) s159 rfl ?_
                    refine nInc (lv' := [(0, .ref 159), (1, .int (nI (k))), (2, .int (nI (al * 1))), (3, .int (nI (i + 1))), (4, .int (nI (0)))]) dX11_count_150 rfl rfl (by decide) rfl ?_
                    refine aX_goto (tgt := 19) dX11_count_153 (by decide) ?_
                    refine aX_lv (lv' := [(0, .ref 159), (1, .int (nI (k))), (2, .int (nI (al * 1))), (3, .int (nI (i + 1)))]) [0, 1, 2, 3] rfl ?_
                    obtain ⟨I2, hI2⟩ : ∃ y, y = (aU (aU I1 177 ((16 * k) + i) (nI (v.1))) 159 21 (nI (v.1 + 1))) := ⟨_, rfl⟩
                    rw [← hI2]
                    have hk2 : ∀ q j, ¬ (q = 159 ∧ j = 21) → q ≠ 177 → I2 q j = I1 q j := fun q j g1 g2 => by rw [hI2, aU_n (by omega), aU_n (by omega)]
                    have hin2 : mvIn I2 s S k (i + 1) (v.1 + 1, aU v.2 k i (v.1)) := mvIn_on hn (by omega) hin hq hon (by rw [hI2, aU_s]; try rfl) (by rw [hI2, aU_n (by omega), aU_s]) (fun j hj => by rw [hI2, aU_n (by omega), aU_n (by omega)])
                    have hvs : jVm s S k v i = (v.1 + 1, aU v.2 k i (v.1)) := by rw [jVm_f (Or.inr (Or.inr (by rw [getD_of hq0]; exact c21)))]
                    exact ih (s.1 - (i + 1)) (by omega) (i + 1) (by omega) rfl I2 _ _ (mnRep_of (fun q j g => hk2 q j (by omega) (by omega)) hs) (msRep_of (fun q j g => hk2 q j (by omega) (by omega)) hS) (mlRep_of (fun q j g1 g2 => hk2 q j (by omega) (by omega)) hl) hin2 (by rw [jML_t hon, List.foldl_append, ← hal]; show _ = jCoF s r q.1 al i; rw [hcf]) (by rw [jML_t hon, List.foldl_append, ← hv]; show _ = jVm s S k v i; rw [hvs]) (fun j => (hk2 176 j (by omega) (by omega)).trans (h176 j)) (fun q j g1 g2 g3 => (hk2 q j g1 g3).trans (hk q j g1 g2 g3))
                  · exact absurd c23 (by decide)
                · exact absurd c22 (by decide)
              · have hprev : I1 177 (16 * (k - 1) + i) = nI (v.2 (k - 1) i) := hin.2.1 (k - 1) q0 i (by omega) hq0 (jML_mem.mpr ⟨by omega, c21⟩)
                refine aX_iconst (v := nI 1) dX11_count_88 (by decide) ?_
                refine aX_goto (tgt := 93) dX11_count_89 (by decide) ?_
                refine aX_istore (lv' := [(0, .ref 159), (1, .int (nI (k))), (2, .int (nI (al * 1))), (3, .int (nI (i))), (4, .int (nI (1)))]) dX11_count_93 (by decide) rfl ?_
                refine aX_aload_n dX11_count_95 rfl ?_
                refine aX_get dX11_count_96 lfX11_69 s159 (f159_22 hR) ?_
                refine aX_bipush (v := nI 16) dX11_count_99 (by decide) ?_
                refine aX_iload_n dX11_count_101 rfl ?_
                refine nMul dX11_count_102 ?_
                refine aX_iload_n dX11_count_103 rfl ?_
                refine nAdd dX11_count_104 ?_
                refine aX_iload dX11_count_105 rfl ?_
                refine nIf_eq (tgt := 126) dX11_count_107 (by decide) (by first | omega | exact Nat.lt_of_le_of_lt (Nat.mod_le _ _) (by omega)) (fun c24 => ?_) (fun c24 => ?_)
                · exact absurd c24 (by decide)
                · refine aX_aload_n dX11_count_110 rfl ?_
                  refine aX_get dX11_count_111 lfX11_69 s159 (f159_22 hR) ?_
                  refine aX_bipush (v := nI 16) dX11_count_114 (by decide) ?_
                  refine aX_iload_n dX11_count_116 rfl ?_
                  refine aX_iconst (v := nI 1) dX11_count_117 (by decide) ?_
                  refine nSub dX11_count_118 (by first | omega | exact Nat.lt_of_le_of_lt (Nat.mod_le _ _) (by omega)) ?_
                  refine nMul dX11_count_119 ?_
                  refine aX_iload_n dX11_count_120 rfl ?_
                  refine nAdd dX11_count_121 ?_
                  refine nIald (v := nI (v.2 (k - 1) i)) dX11_count_122 s177 (by first | omega | exact Nat.lt_of_le_of_lt (Nat.mod_le _ _) (by omega)) (by decide) (hprev) ?_
                  refine aX_goto (tgt := 130) dX11_count_123 (by decide) ?_
                  refine nIast dX11_count_130 s177 (by first | omega | exact Nat.lt_of_le_of_lt (Nat.mod_le _ _) (by omega)) (by decide) ?_
                  refine aX_aload_n dX11_count_131 rfl ?_
                  refine aX_dup dX11_count_132 rfl ?_
                  refine aX_get (v := .int (nI (v.1))) dX11_count_133 lfX11_160 s159 (congrArg Value.int (show (aU I1 177 ((16 * k) + i) (nI (v.2 (k - 1) i))) 159 21 = nI v.1 by rw [aU_n (by omega)]; exact hin.1)) ?_
                  refine aX_iload dX11_count_136 rfl ?_
                  refine nIf_eq (tgt := 145) dX11_count_138 (by decide) (by first | omega | exact Nat.lt_of_le_of_lt (Nat.mod_le _ _) (by omega)) (fun c25 => ?_) (fun c25 => ?_)
                  · exact absurd c25 (by decide)
                  · refine aX_iconst (v := nI 0) dX11_count_141 (by decide) ?_
                    refine aX_goto (tgt := 146) dX11_count_142 (by decide) ?_
                    refine nAdd dX11_count_146 ?_
                    refine pI dX11_count_147 lfX11_160 (fun _ _ _ hq => by cases hq; exact Or.inl rfl) s159 rfl ?_
                    refine nInc (lv' := [(0, .ref 159), (1, .int (nI (k))), (2, .int (nI (al * 1))), (3, .int (nI (i + 1))), (4, .int (nI (1)))]) dX11_count_150 rfl rfl (by decide) rfl ?_
                    refine aX_goto (tgt := 19) dX11_count_153 (by decide) ?_
                    refine aX_lv (lv' := [(0, .ref 159), (1, .int (nI (k))), (2, .int (nI (al * 1))), (3, .int (nI (i + 1)))]) [0, 1, 2, 3] rfl ?_
                    obtain ⟨I2, hI2⟩ : ∃ y, y = (aU (aU I1 177 ((16 * k) + i) (nI (v.2 (k - 1) i))) 159 21 (nI (v.1 + 0))) := ⟨_, rfl⟩
                    rw [← hI2]
                    have hk2 : ∀ q j, ¬ (q = 159 ∧ j = 21) → q ≠ 177 → I2 q j = I1 q j := fun q j g1 g2 => by rw [hI2, aU_n (by omega), aU_n (by omega)]
                    have hin2 : mvIn I2 s S k (i + 1) (v.1, aU v.2 k i (v.2 (k - 1) i)) := mvIn_on hn (by omega) hin hq hon (by rw [hI2, aU_s]; try rfl) (by rw [hI2, aU_n (by omega), aU_s]) (fun j hj => by rw [hI2, aU_n (by omega), aU_n (by omega)])
                    have hvs : jVm s S k v i = (v.1, aU v.2 k i (v.2 (k - 1) i)) := by rw [jVm_t c15 (by omega) (by rw [getD_of hq0]; exact c21)]
                    exact ih (s.1 - (i + 1)) (by omega) (i + 1) (by omega) rfl I2 _ _ (mnRep_of (fun q j g => hk2 q j (by omega) (by omega)) hs) (msRep_of (fun q j g => hk2 q j (by omega) (by omega)) hS) (mlRep_of (fun q j g1 g2 => hk2 q j (by omega) (by omega)) hl) hin2 (by rw [jML_t hon, List.foldl_append, ← hal]; show _ = jCoF s r q.1 al i; rw [hcf]) (by rw [jML_t hon, List.foldl_append, ← hv]; show _ = jVm s S k v i; rw [hvs]) (fun j => (hk2 176 j (by omega) (by omega)).trans (h176 j)) (fun q j g1 g2 g3 => (hk2 q j g1 g3).trans (hk q j g1 g2 g3))
set_option maxHeartbeats 1000000 in
theorem ml_count {I : Nat → Nat → Int32} {L : Nat → Nat → Int64} {R : Nat → Nat → Option Nat} (hR : aRf R) {s : jN} (ho : jOk s) {r : jR} {S : List (Nat × Nat)} (hSs : S = jS s) : ∀ (k9 k : Nat), k ≤ S.length → S.length - k = k9 → ∀ (I1 : Nat → Nat → Int32), mnRep I1 s → msRep I1 s S → mlRep I1 r → (I1 159 21 = nI (jVS s S k).1 ∧ (∀ k' q m, k' < k → S[k']? = some q → m ∈ jMem s q.1 → I1 177 (16 * k' + m) = nI ((jVS s S k).2 k' m))) → (∀ k' q, k' < k → S[k']? = some q → I1 176 k' = nI (jCo s r q.1)) → cuK I I1 → aX mX11_count aE0 (sh0, I1, L, R) 7 [(0, .ref 159), (1, .int (nI (k)))] [] 0 0 (fun ans h' => ans = none ∧ ∃ I', h' = (sh0, I', L, R) ∧ mcRep I' s r ∧ cuK I I') := by
  intro k9
  induction k9 using Nat.strongRecOn with
  | _ k9 ih =>
    intro k hi hk9 I1  hs hS hl hin h176 hk
    have hn := ho.1
    have hSl : S.length ≤ 31 := by rw [hSs]; exact jS_len s
    refine aX_iload_n dX11_count_7 rfl ?_
    refine aX_aload_n dX11_count_8 rfl ?_
    refine aX_get (v := .int (nI (S.length))) dX11_count_9 lfX11_154 s159 (congrArg Value.int (hS.1)) ?_
    refine nGe (tgt := 169) dX11_count_12 (by decide) (by first | omega | exact Nat.lt_of_le_of_lt (Nat.mod_le _ _) (by omega)) (by first | omega | exact Nat.lt_of_le_of_lt (Nat.mod_le _ _) (by omega)) (fun c1 => ?_) (fun c1 => ?_)
    · exact rV dX11_count_169 rfl (⟨rfl, I1, rfl, by
            rw [show k = S.length by omega] at hin h176
            subst hSs
            exact ⟨hin.1, fun k' q m hq hm => hin.2 k' q m (List.getElem?_eq_some_iff.mp hq).1 hq hm, fun k' q hq => h176 k' q (List.getElem?_eq_some_iff.mp hq).1 hq⟩, hk⟩)
    · refine aX_iconst (v := nI 1) dX11_count_15 (by decide) ?_
      refine aX_istore_n (lv' := [(0, .ref 159), (1, .int (nI (k))), (2, .int (nI (1)))]) dX11_count_16 (by decide) rfl ?_
      refine aX_iconst (v := nI 0) dX11_count_17 (by decide) ?_
      refine aX_istore_n (lv' := [(0, .ref 159), (1, .int (nI (k))), (2, .int (nI (1))), (3, .int (nI (0)))]) dX11_count_18 (by decide) rfl ?_
      obtain ⟨q, hq⟩ : ∃ q, S[k]? = some q := ⟨_, List.getElem?_eq_getElem (by omega)⟩
      refine ml_countIn hR ho hSs (r := r) hq (v0 := jVS s S k) (fun I2 g1 g2 g3 g4 g5 g6 => ?_) _ 0 (by omega) rfl I1 1 _ hs hS hl ⟨hin.1, hin.2, fun q m _ hm => by cases hm⟩ rfl rfl (fun _ => rfl) (fun _ _ _ _ _ => rfl)
      refine aX_aload_n dX11_count_156 rfl ?_
      refine aX_get dX11_count_157 lfX11_66 s159 (f159_20 hR) ?_
      refine aX_iload_n dX11_count_160 rfl ?_
      refine aX_iload_n dX11_count_161 rfl ?_
      refine nIast dX11_count_162 s176 (by first | omega | exact Nat.lt_of_le_of_lt (Nat.mod_le _ _) (by omega)) (by decide) ?_
      refine nInc (lv' := [(0, .ref 159), (1, .int (nI (k + 1))), (2, .int (nI ((jML s q.1 s.1).foldl (jCoF s r q.1) 1))), (3, .int (nI (s.1)))]) dX11_count_163 rfl rfl (by decide) rfl ?_
      refine aX_goto (tgt := 7) dX11_count_166 (by decide) ?_
      refine aX_lv (lv' := [(0, .ref 159), (1, .int (nI (k + 1)))]) [0, 1] rfl ?_
      have hgd : S.getD k (0, 0) = q := getD_of hq
      exact ih (S.length - (k + 1)) (by omega) (k + 1) (by omega) rfl _ (mnRep_of (fun q j g => by rw [aU_n (by omega)]) g2) (msRep_of (fun q j g => by rw [aU_n (by omega)]) g3) (mlRep_of (fun q j _ _ => by rw [aU_n (by omega)]) g4) ⟨by rw [aU_n (by omega)]; have z := g1.1; show _ = nI ((jMem s (S.getD k (0, 0)).1).foldl (jVm s S k) (jVS s S k)).1; rw [hgd]; exact z, fun k' q' m hk' hq' hm => by
          rw [aU_n (by omega)]
          show _ = nI (((jMem s (S.getD k (0, 0)).1).foldl (jVm s S k) (jVS s S k)).2 k' m)
          rw [hgd]
          by_cases e : k' = k
          · subst e
            rw [hq] at hq'
            injection hq' with hq'
            subst hq'
            exact g1.2.2 q m hq hm
          · exact g1.2.1 k' q' m (by omega) hq' hm⟩ (fun k' q' hk' hq' => by
          by_cases e : k' = k
          · subst e
            rw [hq] at hq'
            injection hq' with hq'
            subst hq'
            rw [aU_s]; rfl
          · rw [aU_n (by omega), g5]; exact h176 k' q' (by omega) hq') (fun a j e1 e2 e3 => by rw [aU_n (by omega)]; exact (g6 a j e1 e2 e3).trans (hk a j e1 e2 e3))
set_option maxHeartbeats 1000000 in
theorem m_count {I : Nat → Nat → Int32} {L : Nat → Nat → Int64} {R : Nat → Nat → Option Nat} (hR : aRf R) {s : jN} (hs : mnRep I s) (ho : jOk s) (hS : msRep I s (jS s)) {r : jR} (hl : mlRep I r) : aM mX11_count [.ref 159] (sh0, I, L, R) (fun ans h' => ans = none ∧ ∃ I', h' = (sh0, I', L, R) ∧ mcRep I' s r ∧ cuK I I') := by
  refine aM_of plX11_count (Nat.le_of_ble_eq_true rfl) ?_
  refine aX_aload_n dX11_count_0 rfl ?_
  refine aX_iconst (v := nI 0) dX11_count_1 (by decide) ?_
  refine pI dX11_count_2 lfX11_160 (fun _ _ _ hq => by cases hq; exact Or.inl rfl) s159 rfl ?_
  refine aX_iconst (v := nI 0) dX11_count_5 (by decide) ?_
  refine aX_istore_n (lv' := [(0, .ref 159), (1, .int (nI (0)))]) dX11_count_6 (by decide) rfl ?_
  exact ml_count hR ho rfl _ 0 (by omega) rfl _ (mnRep_of (fun q j g => by rw [aU_n (by omega)]) hs) (msRep_of (fun q j g => by rw [aU_n (by omega)]) hS) (mlRep_of (fun q j _ _ => by rw [aU_n (by omega)]) hl) ⟨aU_s, fun k q m h => by omega⟩ (fun k q h => by omega) (fun q j g1 _ _ => by rw [aU_n g1])
