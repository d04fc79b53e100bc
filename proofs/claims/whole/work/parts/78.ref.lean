/-! THE REFERENCE: choose -/
theorem lin3 (a1 a0 : Int) (km k1 k0 : Nat) (h1 : k1 ≤ km) (h0 : k0 ≤ km) : a1 + 10000 * ((km - k1 : Nat) : Int) - (a0 + 10000 * ((km - k0 : Nat) : Int)) + 10000 * ((k1 : Int) - (k0 : Int)) = a1 - a0 := by omega
def tgRep (I : Nat → Nat → Int32) (s : jN) (r : jR) (k rd : Nat) : Prop := ∀ m, m < s.1 → jOn s m (jB s k) = true → I 181 (16 * (64 * k + rd) + m) = jTg s r (jB s k) rd m
def dlL (s : jN) (r : jR) (k rd o : Nat) (b b1 : Nat) (i : Nat) : List Int := ((jML s b i).filter (fun m => jOn s m b1)).map (jDl s r k rd o)
theorem dlL_t {s : jN} {r : jR} {k rd o b b1 i : Nat} (h : jOn s i b = true) (h1 : jOn s i b1 = true) : dlL s r k rd o b b1 (i + 1) = dlL s r k rd o b b1 i ++ [jDl s r k rd o i] := by
  unfold dlL; rw [jML_t h, List.filter_append, List.map_append, List.filter_cons_of_pos (p := fun m => jOn s m b1) h1]; rfl
theorem dlL_f {s : jN} {r : jR} {k rd o b b1 i : Nat} (h : jOn s i b = false ∨ (jOn s i b = true ∧ jOn s i b1 = false)) : dlL s r k rd o b b1 (i + 1) = dlL s r k rd o b b1 i := by
  unfold dlL
  rcases h with h | ⟨h, h1⟩
  · rw [jML_f h]
  · rw [jML_t h, List.filter_append, List.filter_cons_of_neg (p := fun m => jOn s m b1) (by rw [h1]; exact Bool.false_ne_true)]; simp
theorem dlL_all {s : jN} {r : jR} {k rd o : Nat} : dlL s r k rd o (jB s k) (jB s (k + 1)) s.1 = jDL s r k rd o := rfl
theorem dlL_len (s : jN) (r : jR) (k rd o b b1 i : Nat) : (dlL s r k rd o b b1 i).length ≤ i := by
  unfold dlL
  rw [List.length_map]
  refine Nat.le_trans (List.length_filter_le _ _) ?_
  rw [jML_len]; exact jCnt_le _ _
theorem sm1_app (l : List Int) (x : Int) : sm1 (l ++ [x]) = sm1 l + x := by unfold sm1; rw [ls_app]; show _ + (x + 0) = _; omega
theorem sq2_app (l : List Int) (x : Int) : sq2 (l ++ [x]) = sq2 l + x * x := by unfold sq2; rw [ls_app]; show _ + (x * x + 0) = _; omega
set_option maxHeartbeats 1000000 in
theorem ml_strain {I : Nat → Nat → Int32} {L : Nat → Nat → Int64} {R : Nat → Nat → Option Nat} (hR : aRf R) {s : jN} (hs : mnRep I s) (ho : jOk s) (h6 : jSix s) (hS : msRep I s (jS s)) {r : jR} (hr : rOk r) (hg : rGood r) {k : Nat} (hk : k + 1 < (jS s).length) {rd o : Nat} (hrd : rd < 64) (hro : o < 64) (ht0 : tgRep I s r k rd) (ht1 : tgRep I s r (k + 1) o) : ∀ (k9 i : Nat), i ≤ s.1 → s.1 - i = k9 → aX mX11_strain aE0 (sh0, I, L, R) 12 [(0, .ref 159), (1, .int (nI (k))), (2, .int (nI (rd))), (3, .int (nI (o))), (4, .int (nI ((dlL s r k rd o (jB s k) (jB s (k + 1)) i).length))), (5, .long (lZ (sm1 (dlL s r k rd o (jB s k) (jB s (k + 1)) i)))), (7, .long (lZ (sq2 (dlL s r k rd o (jB s k) (jB s (k + 1)) i)))), (9, .int (nI (i)))] [] 0 0 (fun ans h' => h' = (sh0, I, L, R) ∧ ans = some (.long (jStrain s r k rd o))) := by
  intro k9
  induction k9 using Nat.strongRecOn with
  | _ k9 ih =>
    intro i hi hk9  
    have hn := ho.1
    have hSl := jS_len s
    obtain ⟨q, hq, hqb⟩ := jQ (show k < (jS s).length by omega)
    obtain ⟨q1, hq1, hqb1⟩ := jQ hk
    have hbs := jBase_in (jS_in hq).2.2
    have hbs1 := jBase_in (jS_in hq1).2.2
    have hb0 := hbs.2.1
    have hb1 := hbs1.2.1
    have hll := dlL_len s r k rd o (jB s k) (jB s (k + 1)) i
    refine aX_iload dX11_strain_12 rfl ?_
    refine aX_aload_n dX11_strain_14 rfl ?_
    refine aX_get (v := .int (nI (s.1))) dX11_strain_15 lfX11_150 s159 (congrArg Value.int (hs.1)) ?_
    refine nGe (tgt := 139) dX11_strain_18 (by decide) (by first | omega | exact Nat.lt_of_le_of_lt (Nat.mod_le _ _) (by omega)) (by first | omega | exact Nat.lt_of_le_of_lt (Nat.mod_le _ _) (by omega)) (fun c1 => ?_) (fun c1 => ?_)
    · obtain rfl : i = s.1 := by omega
      have hlen := jDL_len h6 (r := r) (k := k) (rd := rd) (o := o)
      rw [dlL_all]
      refine aX_iload dX11_strain_139 rfl ?_
      refine nIf_ne (tgt := 148) dX11_strain_141 (by decide) (by first | omega | exact Nat.lt_of_le_of_lt (Nat.mod_le _ _) (by omega)) (fun c2 => ?_) (fun c2 => ?_)
      · have h60 : 60 / (jDL s r k rd o).length ≤ 60 := Nat.div_le_self _ _
        refine aX_bipush (v := nI 60) dX11_strain_148 (by decide) ?_
        refine aX_iload dX11_strain_150 rfl ?_
        refine nDiv dX11_strain_152 (by first | omega | exact Nat.lt_of_le_of_lt (Nat.mod_le _ _) (by omega)) (by first | omega | exact Nat.lt_of_le_of_lt (Nat.mod_le _ _) (by omega)) (by first | omega | exact Nat.lt_of_le_of_lt (Nat.mod_le _ _) (by omega)) ?_
        refine kI2l dX11_strain_153 (by first | omega | exact Nat.lt_of_le_of_lt (Nat.mod_le _ _) (by omega)) ?_
        refine aX_iload dX11_strain_154 rfl ?_
        refine kI2l dX11_strain_156 (by first | omega | exact Nat.lt_of_le_of_lt (Nat.mod_le _ _) (by omega)) ?_
        refine aX_lload dX11_strain_157 rfl ?_
        refine yMul (a := (((jDL s r k rd o).length : Nat) : Int)) (b := sq2 (jDL s r k rd o)) dX11_strain_159 (kZ _) (rfl) ?_
        refine aX_lload dX11_strain_160 rfl ?_
        refine aX_lload dX11_strain_162 rfl ?_
        refine yMul (a := sm1 (jDL s r k rd o)) (b := sm1 (jDL s r k rd o)) dX11_strain_164 (rfl) (rfl) ?_
        refine ySub (a := ((((jDL s r k rd o).length : Nat) : Int)) * (sq2 (jDL s r k rd o))) (b := (sm1 (jDL s r k rd o)) * (sm1 (jDL s r k rd o))) dX11_strain_165 (rfl) (rfl) ?_
        refine yMul (a := ((60 / ((jDL s r k rd o).length) : Nat) : Int)) (b := (((((jDL s r k rd o).length : Nat) : Int)) * (sq2 (jDL s r k rd o))) - ((sm1 (jDL s r k rd o)) * (sm1 (jDL s r k rd o)))) dX11_strain_166 (kZ _) (rfl) ?_
        exact rL dX11_strain_167 rfl (⟨rfl, by rw [jStrain_eq ho h6 hr hg hk]; unfold jSZ strZ; rw [if_neg (by omega)]⟩)
      · refine aX_lconst (v := lN 0) dX11_strain_144 rfl ?_
        refine aX_goto (tgt := 167) dX11_strain_145 (by decide) ?_
        exact rL dX11_strain_167 rfl (⟨rfl, by rw [jStrain_eq ho h6 hr hg hk]; unfold jSZ strZ; rw [if_pos (by omega)]; rfl⟩)
    · refine aX_aload_n dX11_strain_21 rfl ?_
      refine aX_iload_n dX11_strain_22 rfl ?_
      refine aX_iload dX11_strain_23 rfl ?_
      refine cVp (As := [.int (nI (k)), .int (nI (i))]) (st := []) (v := .int (bI (jOn s i q.1))) dX11_strain_25 kX11_strain_163 s159 aEok0 rfl rfl (Nat.le_of_ble_eq_true rfl) (m_sounds0 hR hs ho hS hSl hq (by omega)) ?_
      refine bEq (tgt := 133) dX11_strain_28 (by decide) (fun c3 => ?_) (fun c3 => ?_)
      · have hst := dlL_f (s := s) (r := r) (k := k) (rd := rd) (o := o) (b := jB s k) (b1 := jB s (k + 1)) (i := i) (Or.inl (by rw [← hqb]; exact c3))
        refine nInc (lv' := [(0, .ref 159), (1, .int (nI (k))), (2, .int (nI (rd))), (3, .int (nI (o))), (4, .int (nI ((dlL s r k rd o (jB s k) (jB s (k + 1)) i).length))), (5, .long (lZ (sm1 (dlL s r k rd o (jB s k) (jB s (k + 1)) i)))), (7, .long (lZ (sq2 (dlL s r k rd o (jB s k) (jB s (k + 1)) i)))), (9, .int (nI (i + 1)))]) dX11_strain_133 rfl rfl (by decide) rfl ?_
        refine aX_goto (tgt := 12) dX11_strain_136 (by decide) ?_
        refine aX_lv (lv' := [(0, .ref 159), (1, .int (nI k)), (2, .int (nI rd)), (3, .int (nI o)), (4, .int (nI (dlL s r k rd o (jB s k) (jB s (k + 1)) (i + 1)).length)), (5, .long (lZ (sm1 (dlL s r k rd o (jB s k) (jB s (k + 1)) (i + 1))))), (7, .long (lZ (sq2 (dlL s r k rd o (jB s k) (jB s (k + 1)) (i + 1))))), (9, .int (nI (i + 1)))]) [0, 1, 2, 3, 4, 5, 6, 7] (by rw [hst]; rfl) ?_
        exact ih (s.1 - (i + 1)) (by omega) (i + 1) (by omega) rfl
      · have hon : jOn s i (jB s k) = true := by rw [← hqb]; exact c3
        refine aX_aload_n dX11_strain_31 rfl ?_
        refine aX_iload_n dX11_strain_32 rfl ?_
        refine aX_iconst (v := nI 1) dX11_strain_33 (by decide) ?_
        refine nAdd dX11_strain_34 ?_
        refine aX_iload dX11_strain_35 rfl ?_
        refine cVp (As := [.int (nI (k + 1)), .int (nI (i))]) (st := []) (v := .int (bI (jOn s i q1.1))) dX11_strain_37 kX11_strain_163 s159 aEok0 rfl rfl (Nat.le_of_ble_eq_true rfl) (m_sounds0 hR hs ho hS hSl hq1 (by omega)) ?_
        refine bEq (tgt := 133) dX11_strain_40 (by decide) (fun c4 => ?_) (fun c4 => ?_)
        · have hst := dlL_f (s := s) (r := r) (k := k) (rd := rd) (o := o) (b := jB s k) (b1 := jB s (k + 1)) (i := i) (Or.inr ⟨hon, by rw [← hqb1]; exact c4⟩)
          refine nInc (lv' := [(0, .ref 159), (1, .int (nI (k))), (2, .int (nI (rd))), (3, .int (nI (o))), (4, .int (nI ((dlL s r k rd o (jB s k) (jB s (k + 1)) i).length))), (5, .long (lZ (sm1 (dlL s r k rd o (jB s k) (jB s (k + 1)) i)))), (7, .long (lZ (sq2 (dlL s r k rd o (jB s k) (jB s (k + 1)) i)))), (9, .int (nI (i + 1)))]) dX11_strain_133 rfl rfl (by decide) rfl ?_
          refine aX_goto (tgt := 12) dX11_strain_136 (by decide) ?_
          refine aX_lv (lv' := [(0, .ref 159), (1, .int (nI k)), (2, .int (nI rd)), (3, .int (nI o)), (4, .int (nI (dlL s r k rd o (jB s k) (jB s (k + 1)) (i + 1)).length)), (5, .long (lZ (sm1 (dlL s r k rd o (jB s k) (jB s (k + 1)) (i + 1))))), (7, .long (lZ (sq2 (dlL s r k rd o (jB s k) (jB s (k + 1)) (i + 1))))), (9, .int (nI (i + 1)))]) [0, 1, 2, 3, 4, 5, 6, 7] (by rw [hst]; rfl) ?_
          exact ih (s.1 - (i + 1)) (by omega) (i + 1) (by omega) rfl
        · have hon1 : jOn s i (jB s (k + 1)) = true := by rw [← hqb1]; exact c4
          have hst := dlL_t (s := s) (r := r) (k := k) (rd := rd) (o := o) (b := jB s k) (b1 := jB s (k + 1)) (i := i) hon hon1
          refine aX_aload_n dX11_strain_43 rfl ?_
          refine aX_get dX11_strain_44 lfX11_83 s159 (f159_26 hR) ?_
          refine aX_bipush (v := nI 16) dX11_strain_47 (by decide) ?_
          refine aX_bipush (v := nI 64) dX11_strain_49 (by decide) ?_
          refine aX_iload_n dX11_strain_51 rfl ?_
          refine aX_iconst (v := nI 1) dX11_strain_52 (by decide) ?_
          refine nAdd dX11_strain_53 ?_
          refine nMul dX11_strain_54 ?_
          refine aX_iload_n dX11_strain_55 rfl ?_
          refine nAdd dX11_strain_56 ?_
          refine nMul dX11_strain_57 ?_
          refine aX_iload dX11_strain_58 rfl ?_
          refine nAdd dX11_strain_60 ?_
          refine nIald (v := iZ (jDz s r (jB s (k + 1)) o i + 10000 * ((jSt s (jB s (k + 1)) i : Nat) : Int))) dX11_strain_61 s181 (by first | omega | exact Nat.lt_of_le_of_lt (Nat.mod_le _ _) (by omega)) (by decide) ((ht1 i (by omega) hon1).trans (jTg_eq ..)) ?_
          refine aX_aload_n dX11_strain_62 rfl ?_
          refine aX_get dX11_strain_63 lfX11_83 s159 (f159_26 hR) ?_
          refine aX_bipush (v := nI 16) dX11_strain_66 (by decide) ?_
          refine aX_bipush (v := nI 64) dX11_strain_68 (by decide) ?_
          refine aX_iload_n dX11_strain_70 rfl ?_
          refine nMul dX11_strain_71 ?_
          refine aX_iload_n dX11_strain_72 rfl ?_
          refine nAdd dX11_strain_73 ?_
          refine nMul dX11_strain_74 ?_
          refine aX_iload dX11_strain_75 rfl ?_
          refine nAdd dX11_strain_77 ?_
          refine nIald (v := iZ (jDz s r (jB s k) rd i + 10000 * ((jSt s (jB s k) i : Nat) : Int))) dX11_strain_78 s181 (by first | omega | exact Nat.lt_of_le_of_lt (Nat.mod_le _ _) (by omega)) (by decide) ((ht0 i (by omega) hon).trans (jTg_eq ..)) ?_
          refine zSub (a := jDz s r (jB s (k + 1)) o i + 10000 * ((jSt s (jB s (k + 1)) i : Nat) : Int)) (b := jDz s r (jB s k) rd i + 10000 * ((jSt s (jB s k) i : Nat) : Int)) dX11_strain_79 (rfl) (rfl) ?_
          refine aX_sipush (v := nI 10000) dX11_strain_80 (by decide) ?_
          refine aX_aload_n dX11_strain_83 rfl ?_
          refine aX_get dX11_strain_84 lfX11_7 s159 (f159_1 hR) ?_
          refine aX_aload_n dX11_strain_87 rfl ?_
          refine aX_get dX11_strain_88 lfX11_60 s159 (f159_18 hR) ?_
          refine aX_iload_n dX11_strain_91 rfl ?_
          refine aX_iconst (v := nI 1) dX11_strain_92 (by decide) ?_
          refine nAdd dX11_strain_93 ?_
          refine nIald (v := nI (jBase s q1.1)) dX11_strain_94 s174 (by first | omega | exact Nat.lt_of_le_of_lt (Nat.mod_le _ _) (by omega)) (by decide) ((hS.2 (k + 1) q1 hq1).2.2.2.1) ?_
          refine nIald (v := nI (s.2.1 (jBase s q1.1))) dX11_strain_95 s160 (by first | omega | exact Nat.lt_of_le_of_lt (Nat.mod_le _ _) (by omega)) (by decide) ((hs.2 (jBase s q1.1) (by omega)).1) ?_
          refine aX_aload_n dX11_strain_96 rfl ?_
          refine aX_get dX11_strain_97 lfX11_7 s159 (f159_1 hR) ?_
          refine aX_aload_n dX11_strain_100 rfl ?_
          refine aX_get dX11_strain_101 lfX11_60 s159 (f159_18 hR) ?_
          refine aX_iload_n dX11_strain_104 rfl ?_
          refine nIald (v := nI (jBase s q.1)) dX11_strain_105 s174 (by first | omega | exact Nat.lt_of_le_of_lt (Nat.mod_le _ _) (by omega)) (by decide) ((hS.2 k q hq).2.2.2.1) ?_
          refine nIald (v := nI (s.2.1 (jBase s q.1))) dX11_strain_106 s160 (by first | omega | exact Nat.lt_of_le_of_lt (Nat.mod_le _ _) (by omega)) (by decide) ((hs.2 (jBase s q.1) (by omega)).1) ?_
          refine zSub (a := ((s.2.1 (jBase s q1.1) : Nat) : Int)) (b := ((s.2.1 (jBase s q.1) : Nat) : Int)) dX11_strain_107 (nZ _) (nZ _) ?_
          refine zMul (a := ((10000 : Nat) : Int)) (b := (((s.2.1 (jBase s q1.1) : Nat) : Int)) - (((s.2.1 (jBase s q.1) : Nat) : Int))) dX11_strain_108 (nZ _) (rfl) ?_
          refine zAdd (a := (jDz s r (jB s (k + 1)) o i + 10000 * ((jSt s (jB s (k + 1)) i : Nat) : Int)) - (jDz s r (jB s k) rd i + 10000 * ((jSt s (jB s k) i : Nat) : Int))) (b := (((10000 : Nat) : Int)) * ((((s.2.1 (jBase s q1.1) : Nat) : Int)) - (((s.2.1 (jBase s q.1) : Nat) : Int)))) dX11_strain_109 (rfl) (rfl) ?_
          rw [show ((jDz s r (jB s (k + 1)) o i + 10000 * ((jSt s (jB s (k + 1)) i : Nat) : Int)) - (jDz s r (jB s k) rd i + 10000 * ((jSt s (jB s k) i : Nat) : Int))) + ((((10000 : Nat) : Int)) * ((((s.2.1 (jBase s q1.1) : Nat) : Int)) - (((s.2.1 (jBase s q.1) : Nat) : Int)))) = jDl s r k rd o i by rw [hqb, hqb1]; exact lin3 _ _ _ _ _ (by have y := jMem_min hbs1.1 c1 (show jOn s i q1.1 = true by rw [hqb1]; exact hon1); rw [hqb1] at y; exact y) (by have y := jMem_min hbs.1 c1 (show jOn s i q.1 = true by rw [hqb]; exact hon); rw [hqb] at y; exact y)]
          refine yI2l dX11_strain_110 (Int.le_trans (by decide) (jDl_in (s := s) hr hg k rd o i).1) (Int.lt_of_le_of_lt (jDl_in (s := s) hr hg k rd o i).2 (by decide)) ?_
          refine aX_lstore (lv' := [(0, .ref 159), (1, .int (nI (k))), (2, .int (nI (rd))), (3, .int (nI (o))), (4, .int (nI ((dlL s r k rd o (jB s k) (jB s (k + 1)) i).length))), (5, .long (lZ (sm1 (dlL s r k rd o (jB s k) (jB s (k + 1)) i)))), (7, .long (lZ (sq2 (dlL s r k rd o (jB s k) (jB s (k + 1)) i)))), (9, .int (nI (i))), (10, .long (lZ (jDl s r k rd o i)))]) dX11_strain_111 (by decide) rfl ?_
          refine nInc (lv' := [(0, .ref 159), (1, .int (nI (k))), (2, .int (nI (rd))), (3, .int (nI (o))), (4, .int (nI (((dlL s r k rd o (jB s k) (jB s (k + 1)) i).length) + 1))), (5, .long (lZ (sm1 (dlL s r k rd o (jB s k) (jB s (k + 1)) i)))), (7, .long (lZ (sq2 (dlL s r k rd o (jB s k) (jB s (k + 1)) i)))), (9, .int (nI (i))), (10, .long (lZ (jDl s r k rd o i)))]) dX11_strain_113 rfl rfl (by decide) rfl ?_
          refine aX_lload dX11_strain_116 rfl ?_
          refine aX_lload dX11_strain_118 rfl ?_
          refine yAdd (a := sm1 (dlL s r k rd o (jB s k) (jB s (k + 1)) i)) (b := jDl s r k rd o i) dX11_strain_120 (rfl) (rfl) ?_
          refine aX_lstore (lv' := [(0, .ref 159), (1, .int (nI (k))), (2, .int (nI (rd))), (3, .int (nI (o))), (4, .int (nI (((dlL s r k rd o (jB s k) (jB s (k + 1)) i).length) + 1))), (5, .long (lZ ((sm1 (dlL s r k rd o (jB s k) (jB s (k + 1)) i)) + (jDl s r k rd o i)))), (7, .long (lZ (sq2 (dlL s r k rd o (jB s k) (jB s (k + 1)) i)))), (9, .int (nI (i))), (10, .long (lZ (jDl s r k rd o i)))]) dX11_strain_121 (by decide) rfl ?_
          refine aX_lload dX11_strain_123 rfl ?_
          refine aX_lload dX11_strain_125 rfl ?_
          refine aX_lload dX11_strain_127 rfl ?_
          refine yMul (a := jDl s r k rd o i) (b := jDl s r k rd o i) dX11_strain_129 (rfl) (rfl) ?_
          refine yAdd (a := sq2 (dlL s r k rd o (jB s k) (jB s (k + 1)) i)) (b := (jDl s r k rd o i) * (jDl s r k rd o i)) dX11_strain_130 (rfl) (rfl) ?_
          refine aX_lstore (lv' := [(0, .ref 159), (1, .int (nI (k))), (2, .int (nI (rd))), (3, .int (nI (o))), (4, .int (nI (((dlL s r k rd o (jB s k) (jB s (k + 1)) i).length) + 1))), (5, .long (lZ ((sm1 (dlL s r k rd o (jB s k) (jB s (k + 1)) i)) + (jDl s r k rd o i)))), (7, .long (lZ ((sq2 (dlL s r k rd o (jB s k) (jB s (k + 1)) i)) + ((jDl s r k rd o i) * (jDl s r k rd o i))))), (9, .int (nI (i))), (10, .long (lZ (jDl s r k rd o i)))]) dX11_strain_131 (by decide) rfl ?_
          refine nInc (lv' := [(0, .ref 159), (1, .int (nI (k))), (2, .int (nI (rd))), (3, .int (nI (o))), (4, .int (nI (((dlL s r k rd o (jB s k) (jB s (k + 1)) i).length) + 1))), (5, .long (lZ ((sm1 (dlL s r k rd o (jB s k) (jB s (k + 1)) i)) + (jDl s r k rd o i)))), (7, .long (lZ ((sq2 (dlL s r k rd o (jB s k) (jB s (k + 1)) i)) + ((jDl s r k rd o i) * (jDl s r k rd o i))))), (9, .int (nI (i + 1))), (10, .long (lZ (jDl s r k rd o i)))]) dX11_strain_133 rfl rfl (by decide) rfl ?_
          refine aX_goto (tgt := 12) dX11_strain_136 (by decide) ?_
          refine aX_lv (lv' := [(0, .ref 159), (1, .int (nI (k))), (2, .int (nI (rd))), (3, .int (nI (o))), (4, .int (nI (((dlL s r k rd o (jB s k) (jB s (k + 1)) i).length) + 1))), (5, .long (lZ ((sm1 (dlL s r k rd o (jB s k) (jB s (k + 1)) i)) + (jDl s r k rd o i)))), (7, .long (lZ ((sq2 (dlL s r k rd o (jB s k) (jB s (k + 1)) i)) + ((jDl s r k rd o i) * (jDl s r k rd o i))))), (9, .int (nI (i + 1)))]) [0, 1, 2, 3, 4, 5, 6, 7] rfl ?_
          refine aX_lv (lv' := [(0, .ref 159), (1, .int (nI k)), (2, .int (nI rd)), (3, .int (nI o)), (4, .int (nI (dlL s r k rd o (jB s k) (jB s (k + 1)) (i + 1)).length)), (5, .long (lZ (sm1 (dlL s r k rd o (jB s k) (jB s (k + 1)) (i + 1))))), (7, .long (lZ (sq2 (dlL s r k rd o (jB s k) (jB s (k + 1)) (i + 1))))), (9, .int (nI (i + 1)))]) [0, 1, 2, 3, 4, 5, 6, 7] (by rw [hst, List.length_append, sm1_app, sq2_app]; rfl) ?_
          exact ih (s.1 - (i + 1)) (by omega) (i + 1) (by omega) rfl
set_option maxHeartbeats 1000000 in
theorem m_strain {I : Nat → Nat → Int32} {L : Nat → Nat → Int64} {R : Nat → Nat → Option Nat} (hR : aRf R) {s : jN} (hs : mnRep I s) (ho : jOk s) (h6 : jSix s) (hS : msRep I s (jS s)) {r : jR} (hr : rOk r) (hg : rGood r) {k : Nat} (hk : k + 1 < (jS s).length) {rd o : Nat} (hrd : rd < 64) (hro : o < 64) (ht0 : tgRep I s r k rd) (ht1 : tgRep I s r (k + 1) o) : aM mX11_strain [.ref 159, .int (nI k), .int (nI rd), .int (nI o)] (sh0, I, L, R) (fun ans h' => h' = (sh0, I, L, R) ∧ ans = some (.long (jStrain s r k rd o))) := by
  refine aM_of plX11_strain (Nat.le_of_ble_eq_true rfl) ?_
  refine aX_iconst (v := nI 0) dX11_strain_0 (by decide) ?_
  refine aX_istore (lv' := [(0, .ref 159), (1, .int (nI (k))), (2, .int (nI (rd))), (3, .int (nI (o))), (4, .int (nI (0)))]) dX11_strain_1 (by decide) rfl ?_
  refine aX_lconst (v := lN 0) dX11_strain_3 rfl ?_
  refine aX_lstore (lv' := [(0, .ref 159), (1, .int (nI (k))), (2, .int (nI (rd))), (3, .int (nI (o))), (4, .int (nI (0))), (5, .long (lN (0)))]) dX11_strain_4 (by decide) rfl ?_
  refine aX_lconst (v := lN 0) dX11_strain_6 rfl ?_
  refine aX_lstore (lv' := [(0, .ref 159), (1, .int (nI (k))), (2, .int (nI (rd))), (3, .int (nI (o))), (4, .int (nI (0))), (5, .long (lN (0))), (7, .long (lN (0)))]) dX11_strain_7 (by decide) rfl ?_
  refine aX_iconst (v := nI 0) dX11_strain_9 (by decide) ?_
  refine aX_istore (lv' := [(0, .ref 159), (1, .int (nI (k))), (2, .int (nI (rd))), (3, .int (nI (o))), (4, .int (nI (0))), (5, .long (lN (0))), (7, .long (lN (0))), (9, .int (nI (0)))]) dX11_strain_10 (by decide) rfl ?_
  refine aX_lv (lv' := [(0, .ref 159), (1, .int (nI k)), (2, .int (nI rd)), (3, .int (nI o)), (4, .int (nI (dlL s r k rd o (jB s k) (jB s (k + 1)) 0).length)), (5, .long (lZ (sm1 (dlL s r k rd o (jB s k) (jB s (k + 1)) 0)))), (7, .long (lZ (sq2 (dlL s r k rd o (jB s k) (jB s (k + 1)) 0)))), (9, .int (nI 0))]) [0, 1, 2, 3, 4, 5, 6, 7] rfl ?_
  exact ml_strain hR hs ho h6 hS hr hg hk hrd hro ht0 ht1 _ 0 (by omega) rfl
