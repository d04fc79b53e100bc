/-! THE REFERENCE: its text -/
def wtRep (I : Nat → Nat → Int32) (l : List Nat) : Prop := I 159 42 = nI l.length ∧ ∀ j c, l[j]? = some c → I 193 j = nI c ∧ c < 128
def wtK (I I' : Nat → Nat → Int32) : Prop := ∀ q j, ¬ (q = 159 ∧ j = 42) → q ≠ 193 → I' q j = I q j
theorem wtK_refl {I : Nat → Nat → Int32} : wtK I I := fun _ _ _ _ => rfl
theorem wtK_trans {I I1 I2 : Nat → Nat → Int32} (h : wtK I I1) (k : wtK I1 I2) : wtK I I2 := fun q j a b => (k q j a b).trans (h q j a b)
theorem wt_put {I : Nat → Nat → Int32} {l : List Nat} {c : Nat} (h : wtRep I l) (hc : c < 128) : wtRep (aU (aU I 193 l.length (nI c)) 159 42 (nI (l.length + 1))) (l ++ [c]) := by
  refine ⟨by rw [aU_s, List.length_append]; rfl, fun j d hj => ?_⟩
  rw [aU_n (by omega)]
  by_cases e : j < l.length
  · rw [List.getElem?_append_left e] at hj
    rw [aU_n (by omega)]; exact h.2 j d hj
  · rw [List.getElem?_append_right (by omega)] at hj
    have hl : j - l.length = 0 := by
      refine Nat.le_zero.mp (Nat.le_of_lt_succ ?_)
      have := (List.getElem?_eq_some_iff.mp hj).1
      simpa using this
    rw [hl] at hj
    have : c = d := Option.some.inj hj
    subst this
    rw [show j = l.length by omega, aU_s]; exact ⟨rfl, hc⟩
theorem wt_putK {I : Nat → Nat → Int32} {j : Nat} {v w : Int32} : wtK I (aU (aU I 193 j v) 159 42 w) := fun q i a b => by rw [aU_n (by omega), aU_n (by omega)]
theorem dVal_app2 (l m : List Nat) : dVal (l ++ m) = dVal l * 10 ^ m.length + dVal m := by
  have gen : ∀ (m : List Nat) (a : Nat), m.foldl (fun a d => a * 10 + d) a = a * 10 ^ m.length + m.foldl (fun a d => a * 10 + d) 0 := by
    intro m
    induction m with
    | nil => intro a; show a = a * 1 + 0; omega
    | cons y m ih =>
      intro a
      show m.foldl _ (a * 10 + y) = a * 10 ^ (m.length + 1) + m.foldl _ (0 * 10 + y)
      rw [ih (a * 10 + y), ih (0 * 10 + y), Nat.pow_succ]
      have : (a * 10 + y) * 10 ^ m.length = a * (10 ^ m.length * 10) + (0 * 10 + y) * 10 ^ m.length := by
        rw [Nat.add_mul, Nat.mul_assoc, Nat.mul_comm 10, Nat.zero_mul, Nat.zero_add]
      omega
  unfold dVal
  rw [List.foldl_append]
  exact gen m _
theorem asc_app (l m : List Nat) : asc (l ++ m) = asc l ++ asc m := List.map_append ..
theorem isDec_head {l : List Nat} {X : Nat} (h : isDec l X) (h0 : 0 < X) : l.head? ≠ some 0 := by
  obtain ⟨h1, h2, h3, h4⟩ := h
  cases l with
  | nil => exact absurd rfl h3
  | cons x t =>
    cases t with
    | nil =>
      intro e
      have : x = 0 := Option.some.inj e
      subst this
      have : dVal [0] = 0 := rfl
      omega
    | cons y t => exact h4 (by simp)
/-- m digits more -/
def dgE (r0 m0 m rest : Nat) (e : List Nat) : Prop := dVal e * 10 ^ m + rest = r0 ∧ rest < 10 ^ m ∧ e.length + m = m0 ∧ ∀ d, d ∈ e → d < 10
theorem u_s (m : Nat) : 10 ^ (m + 1) / 10 = 10 ^ m := by rw [Nat.pow_succ]; exact Nat.mul_div_cancel _ (by decide)
theorem dgE_s {r0 m0 m rest : Nat} {e : List Nat} (h : dgE r0 m0 (m + 1) rest e) : rest / 10 ^ m < 10 ∧ dgE r0 m0 m (rest % 10 ^ m) (e ++ [rest / 10 ^ m]) := by
  obtain ⟨h1, h2, h3, h4⟩ := h
  have hp : 0 < 10 ^ m := Nat.pow_pos (by decide)
  have hd : rest / 10 ^ m < 10 := Nat.div_lt_of_lt_mul (by rw [Nat.pow_succ] at h2; exact h2)
  refine ⟨hd, ?_, Nat.mod_lt _ hp, ?_, fun d hd' => ?_⟩
  · rw [dVal_app, Nat.add_mul, ← h1, Nat.pow_succ]
    have e1 := Nat.div_add_mod rest (10 ^ m)
    have e2 : dVal e * 10 * 10 ^ m = dVal e * (10 ^ m * 10) := by rw [Nat.mul_assoc, Nat.mul_comm 10]
    have e3 : rest / 10 ^ m * 10 ^ m = 10 ^ m * (rest / 10 ^ m) := Nat.mul_comm _ _
    omega
  · rw [List.length_append, List.length_singleton]; omega
  · rw [List.mem_append, List.mem_singleton] at hd'
    rcases hd' with g | g
    · exact h4 d g
    · rw [g]; exact hd
theorem dgE_0 {r0 m0 : Nat} (h : r0 < 10 ^ m0) : dgE r0 m0 m0 r0 [] := ⟨by show 0 * 10 ^ m0 + r0 = r0; omega, h, by simp, fun d hd => by cases hd⟩
theorem dgE_end {r0 m0 rest : Nat} {e : List Nat} (h : dgE r0 m0 0 rest e) : dVal e = r0 ∧ e.length = m0 ∧ ∀ d, d ∈ e → d < 10 := by
  obtain ⟨h1, h2, h3, h4⟩ := h
  rw [Nat.pow_zero] at h1 h2
  exact ⟨by omega, by omega, h4⟩
/-- the first digit of a number with just so many -/
theorem first_dec {r0 m : Nat} {e : List Nat} (h : dVal e = r0 ∧ e.length = m + 1 ∧ ∀ d, d ∈ e → d < 10) (hm : m = 0 ∨ r0 / 10 ^ m ≠ 0) : isDec e r0 := by
  refine ⟨h.1, h.2.2, fun z => by rw [z] at h; simp at h, fun hl => ?_⟩
  cases e with
  | nil => simp at hl
  | cons x t =>
    intro z
    have hx : x = 0 := Option.some.inj z
    subst hx
    have e1 : dVal (0 :: t) = dVal t := by
      have := dVal_app2 [0] t
      have z0 : dVal [0] = 0 := rfl
      rw [z0, Nat.zero_mul, Nat.zero_add] at this
      exact this
    have lt : ∀ (t : List Nat), (∀ d, d ∈ t → d < 10) → dVal t < 10 ^ t.length := by
      intro t ht
      have gen : ∀ (n : Nat) (t : List Nat), t.length = n → (∀ d, d ∈ t → d < 10) → dVal t < 10 ^ t.length := by
        intro n
        induction n with
        | zero =>
          intro t h0 _
          have : t = [] := List.eq_nil_of_length_eq_zero h0
          subst this; decide
        | succ n ih =>
          intro t hn ht
          have hne : t ≠ [] := fun z => by rw [z] at hn; simp at hn
          have e0 := (List.dropLast_concat_getLast hne).symm
          have hl : t.dropLast.length = n := by rw [List.length_dropLast]; omega
          have h1 := ih t.dropLast hl (fun d hd => ht d (List.dropLast_subset t hd))
          have h2 := ht _ (List.getLast_mem hne)
          rw [e0, dVal_app, List.length_append, List.length_singleton, Nat.pow_succ]
          omega
      exact gen _ t rfl ht
    have h3 := lt t (fun d hd => h.2.2 d (List.mem_cons_of_mem _ hd))
    have hl2 : t.length = m := by have := h.2.1; simp at this; omega
    rw [hl2] at h3
    rcases hm with g | g
    · subst g; simp at hl; omega
    · exact g (Nat.div_eq_of_lt (by rw [← h.1, e1]; exact h3))
theorem more_dec {l e : List Nat} {V r0 : Nat} (hl : isDec l V) (hV : 0 < V) (h : dVal e = r0 ∧ e.length = 9 ∧ ∀ d, d ∈ e → d < 10) : isDec (l ++ e) (V * 1000000000 + r0) := by
  refine ⟨by rw [dVal_app2, h.2.1, h.1, hl.1], fun d hd => (List.mem_append.mp hd).elim (hl.2.1 d) (h.2.2 d), fun z => hl.2.2.1 (List.append_eq_nil_iff.mp z).1, fun _ => ?_⟩
  have := isDec_head hl hV
  cases l with
  | nil => exact absurd rfl hl.2.2.1
  | cons x t => exact this
set_option maxHeartbeats 1000000 in
theorem ml_wrD {I : Nat → Nat → Int32} {L : Nat → Nat → Int64} {R : Nat → Nat → Option Nat} (hR : aRf R) {x : Nat} (hx : x < 12) {X : Nat} {l : List Nat} (hl : l.length < 350) {r0 m0 k tp : Nat} (hm0 : m0 ≤ 9) (hr0 : r0 < 1000000000) {Q : Option Value → aH → Prop} (kk : ∀ (I2 : Nat → Nat → Int32) (e : List Nat), (dVal e = r0 ∧ e.length = m0 ∧ ∀ d, d ∈ e → d < 10) → wtRep I2 (l ++ asc e) → wtK I I2 → aX mX11_write aE0 (sh0, I2, L, R) 141 [(0, .ref 159), (1, .int (nI x)), (2, .int (nI tp)), (3, .int (nI k))] [] 0 0 Q) : ∀ (k9 m : Nat), m ≤ m0 → m = k9 → ∀ (rest : Nat) (e : List Nat) (I1 : Nat → Nat → Int32), dgE r0 m0 m rest e → wtRep I1 (l ++ asc e) → wtK I I1 → aX mX11_write aE0 (sh0, I1, L, R) 86 [(0, .ref 159), (1, .int (nI x)), (2, .int (nI tp)), (3, .int (nI k)), (4, .long (lN rest)), (6, .long (lN (10 ^ m / 10)))] [] 0 0 Q := by
  intro k9
  induction k9 using Nat.strongRecOn with
  | _ k9 ih =>
    intro m hi hk9 rest e I1 he hw hk
    have hel : e.length + m = m0 := he.2.2.1
    have hll : (l ++ asc e).length = l.length + e.length := by rw [List.length_append, asc_len]
    have hrl : rest ≤ r0 := by have := he.1; omega
    cases m with
    | zero =>
      refine aX_lload dX11_write_86 rfl ?_
      refine aX_lconst (v := lN 0) dX11_write_88 rfl ?_
      refine aX_lcmp dX11_write_89 ?_
      refine kIf_le (tgt := 141) dX11_write_90 (by decide) (by first | omega | exact Nat.lt_of_le_of_lt (Nat.mod_le _ _) (by omega)) (by first | omega | exact Nat.lt_of_le_of_lt (Nat.mod_le _ _) (by omega)) (fun c1 => ?_) (fun c1 => ?_)
      · refine aX_lv (lv' := [(0, .ref 159), (1, .int (nI (x))), (2, .int (nI (tp))), (3, .int (nI (k)))]) [0, 1, 2, 3] rfl ?_
        exact kk I1 e (dgE_end he) hw hk
      · exact absurd c1 (by omega)
    | succ m =>
      have hds := dgE_s he
      have hpp : 0 < 10 ^ m := Nat.pow_pos (by decide)
      have hpl : 10 ^ m ≤ 10 ^ 8 := Nat.pow_le_pow_right (by decide) (by omega)
      rw [u_s] 
      refine aX_lload dX11_write_86 rfl ?_
      refine aX_lconst (v := lN 0) dX11_write_88 rfl ?_
      refine aX_lcmp dX11_write_89 ?_
      refine kIf_le (tgt := 141) dX11_write_90 (by decide) (by first | omega | exact Nat.lt_of_le_of_lt (Nat.mod_le _ _) (by omega)) (by first | omega | exact Nat.lt_of_le_of_lt (Nat.mod_le _ _) (by omega)) (fun c2 => ?_) (fun c2 => ?_)
      · exact absurd c2 (by omega)
      · refine aX_aload_n dX11_write_93 rfl ?_
        refine aX_get dX11_write_94 lfX11_119 s159 (f159_43 hR) ?_
        refine aX_aload_n dX11_write_97 rfl ?_
        refine aX_get (v := .int (nI ((l ++ asc e).length))) dX11_write_98 lfX11_294 s159 (congrArg Value.int (hw.1)) ?_
        refine aX_ldc2 (v := lN 48) dX11_write_101 lkX11_297 ?_
        refine aX_lload dX11_write_104 rfl ?_
        refine aX_lload dX11_write_106 rfl ?_
        refine kDiv dX11_write_108 (by first | omega | exact Nat.lt_of_le_of_lt (Nat.mod_le _ _) (by omega)) (by first | omega | exact Nat.lt_of_le_of_lt (Nat.mod_le _ _) (by omega)) (by first | omega | exact Nat.lt_of_le_of_lt (Nat.mod_le _ _) (by omega)) ?_
        refine kAdd dX11_write_109 ?_
        refine kL2i dX11_write_110 ?_
        refine aX_i2b dX11_write_111 ?_
        refine nBast dX11_write_112 s193 (by first | omega | exact Nat.lt_of_le_of_lt (Nat.mod_le _ _) (by omega)) (by decide) ?_
        refine aX_aload_n dX11_write_113 rfl ?_
        refine aX_dup dX11_write_114 rfl ?_
        refine aX_get (v := .int (nI ((l ++ asc e).length))) dX11_write_115 lfX11_294 s159 (congrArg Value.int (show (aU I1 193 ((l ++ asc e).length) (((nI (48 + (rest / (10 ^ m)))).toInt8.toInt32).toInt8.toInt32)) 159 42 = nI (l ++ asc e).length by rw [aU_n (by omega)]; exact hw.1)) ?_
        refine aX_iconst (v := nI 1) dX11_write_118 (by decide) ?_
        refine nAdd dX11_write_119 ?_
        refine pI dX11_write_120 lfX11_294 (fun _ _ _ hq => by cases hq; exact Or.inl rfl) s159 rfl ?_
        refine aX_lload dX11_write_123 rfl ?_
        refine aX_lload dX11_write_125 rfl ?_
        refine kRem dX11_write_127 (by first | omega | exact Nat.lt_of_le_of_lt (Nat.mod_le _ _) (by omega)) (by first | omega | exact Nat.lt_of_le_of_lt (Nat.mod_le _ _) (by omega)) (by first | omega | exact Nat.lt_of_le_of_lt (Nat.mod_le _ _) (by omega)) ?_
        refine aX_lstore (lv' := [(0, .ref 159), (1, .int (nI (x))), (2, .int (nI (tp))), (3, .int (nI (k))), (4, .long (lN (rest % (10 ^ m)))), (6, .long (lN (10 ^ m)))]) dX11_write_128 (by decide) rfl ?_
        refine aX_lload dX11_write_130 rfl ?_
        refine aX_ldc2 (v := lN 10) dX11_write_132 lkX11_292 ?_
        refine kDiv dX11_write_135 (by first | omega | exact Nat.lt_of_le_of_lt (Nat.mod_le _ _) (by omega)) (by first | omega | exact Nat.lt_of_le_of_lt (Nat.mod_le _ _) (by omega)) (by first | omega | exact Nat.lt_of_le_of_lt (Nat.mod_le _ _) (by omega)) ?_
        refine aX_lstore (lv' := [(0, .ref 159), (1, .int (nI (x))), (2, .int (nI (tp))), (3, .int (nI (k))), (4, .long (lN (rest % (10 ^ m)))), (6, .long (lN ((10 ^ m) / 10)))]) dX11_write_136 (by decide) rfl ?_
        refine aX_goto (tgt := 86) dX11_write_138 (by decide) ?_
        have hbb : (nI (48 + rest / 10 ^ m)).toInt8.toInt32 = nI (48 + rest / 10 ^ m) := b8 (by omega)
        rw [hbb, hbb]
        have hll : (l ++ asc e).length = l.length + e.length := by rw [List.length_append, asc_len]
        have hw2 := wt_put hw (c := 48 + rest / 10 ^ m) (by omega)
        exact ih m (by omega) m (by omega) rfl (rest % 10 ^ m) (e ++ [rest / 10 ^ m]) _ hds.2 (by rw [asc_app, ← List.append_assoc]; exact hw2) (wtK_trans hk wt_putK)
set_option maxHeartbeats 1000000 in
theorem ml_wrS {h : aH} {x tp r0 : Nat} (hx : x < 12) (htp : tp < 18) (hr0 : r0 < 1000000000) {Q : Option Value → aH → Prop} (kk : ∀ u, u ≤ 8 → r0 < 10 ^ (u + 1) → (u = 0 ∨ r0 / 10 ^ u ≠ 0) → aX mX11_write aE0 h 86 [(0, .ref 159), (1, .int (nI x)), (2, .int (nI tp)), (3, .int (nI tp)), (4, .long (lN r0)), (6, .long (lN (10 ^ u)))] [] 0 0 Q) : ∀ (k9 u : Nat), u ≤ 8 → u = k9 → r0 < 10 ^ (u + 1) → aX mX11_write aE0 h 53 [(0, .ref 159), (1, .int (nI x)), (2, .int (nI tp)), (3, .int (nI tp)), (4, .long (lN r0)), (6, .long (lN (10 ^ u)))] [] 0 0 Q := by
  intro k9
  induction k9 using Nat.strongRecOn with
  | _ k9 ih =>
    intro u hu hk9 hr
    have hpu : 0 < 10 ^ u := Nat.pow_pos (by decide)
    have hpl : 10 ^ u ≤ 10 ^ 8 := Nat.pow_le_pow_right (by decide) hu
    have hdl : r0 / 10 ^ u ≤ r0 := Nat.div_le_self _ _
    refine aX_iload_n dX11_write_53 rfl ?_
    refine aX_iload_n dX11_write_54 rfl ?_
    refine nNe (tgt := 86) dX11_write_55 (by decide) (by first | omega | exact Nat.lt_of_le_of_lt (Nat.mod_le _ _) (by omega)) (by first | omega | exact Nat.lt_of_le_of_lt (Nat.mod_le _ _) (by omega)) (fun c1 => ?_) (fun c1 => ?_)
    · exact absurd rfl c1
    · refine aX_lload dX11_write_58 rfl ?_
      refine aX_lconst (v := lN 1) dX11_write_60 rfl ?_
      refine aX_lcmp dX11_write_61 ?_
      refine kIf_le (tgt := 86) dX11_write_62 (by decide) (by first | omega | exact Nat.lt_of_le_of_lt (Nat.mod_le _ _) (by omega)) (by first | omega | exact Nat.lt_of_le_of_lt (Nat.mod_le _ _) (by omega)) (fun c2 => ?_) (fun c2 => ?_)
      · have hu0 : u = 0 := Nat.eq_zero_of_not_pos (fun z => by
          have : 10 ^ 1 ≤ 10 ^ u := Nat.pow_le_pow_right (by decide) z
          omega)
        exact kk (u) hu hr (Or.inl hu0)
      · obtain ⟨u2, rfl⟩ : ∃ u2, u = u2 + 1 := ⟨u - 1, by
          have : u ≠ 0 := fun z => by rw [z] at c2; omega
          omega⟩
        refine aX_lload dX11_write_65 rfl ?_
        refine aX_lload dX11_write_67 rfl ?_
        refine kDiv dX11_write_69 (by first | omega | exact Nat.lt_of_le_of_lt (Nat.mod_le _ _) (by omega)) (by first | omega | exact Nat.lt_of_le_of_lt (Nat.mod_le _ _) (by omega)) (by first | omega | exact Nat.lt_of_le_of_lt (Nat.mod_le _ _) (by omega)) ?_
        refine aX_lconst (v := lN 0) dX11_write_70 rfl ?_
        refine aX_lcmp dX11_write_71 ?_
        refine kIf_ne (tgt := 86) dX11_write_72 (by decide) (by first | omega | exact Nat.lt_of_le_of_lt (Nat.mod_le _ _) (by omega)) (by first | omega | exact Nat.lt_of_le_of_lt (Nat.mod_le _ _) (by omega)) (fun c3 => ?_) (fun c3 => ?_)
        · have hne : r0 / 10 ^ (u2 + 1) ≠ 0 := c3
          exact kk (u2 + 1) hu hr (Or.inr hne)
        · refine aX_lload dX11_write_75 rfl ?_
          refine aX_ldc2 (v := lN 10) dX11_write_77 lkX11_292 ?_
          refine kDiv dX11_write_80 (by first | omega | exact Nat.lt_of_le_of_lt (Nat.mod_le _ _) (by omega)) (by first | omega | exact Nat.lt_of_le_of_lt (Nat.mod_le _ _) (by omega)) (by first | omega | exact Nat.lt_of_le_of_lt (Nat.mod_le _ _) (by omega)) ?_
          refine aX_lstore (lv' := [(0, .ref 159), (1, .int (nI (x))), (2, .int (nI (tp))), (3, .int (nI (tp))), (4, .long (lN (r0))), (6, .long (lN ((10 ^ (u2 + 1)) / 10)))]) dX11_write_81 (by decide) rfl ?_
          refine aX_goto (tgt := 53) dX11_write_83 (by decide) ?_
          rw [u_s]
          exact ih u2 (by omega) u2 (by omega) rfl (Nat.lt_of_not_le (fun z => by
            have : 0 < r0 / 10 ^ (u2 + 1) := Nat.div_pos z (Nat.pow_pos (by decide))
            omega))
set_option maxHeartbeats 1000000 in
theorem ml_wrL {I : Nat → Nat → Int32} {L : Nat → Nat → Int64} {R : Nat → Nat → Option Nat} (hR : aRf R) {x : Nat} (hx : x < 12) {X : Nat} (hX : hD L x X) (hX1 : X < hPw 18) {l : List Nat} (hl : l.length ≤ 180) {tp : Nat} (htp : tp < 18) (htX : X < hPw (tp + 1)) (htn : tp = 0 ∨ hPw tp ≤ X) : ∀ (k9 c : Nat), c ≤ tp + 1 → c = k9 → ∀ (ds : List Nat) (I1 : Nat → Nat → Int32), ((c = tp + 1 ∧ ds = []) ∨ (c < tp + 1 ∧ isDec ds (X / hPw c))) → ds.length + 9 * c ≤ 9 * (tp + 1) → wtRep I1 (l ++ asc ds) → wtK I I1 → aX mX11_write aE0 (sh0, I1, L, R) 31 [(0, .ref 159), (1, .int (nI (x))), (2, .int (nI (tp))), (3, .int (jDn c))] [] 0 0 (fun ans h' => ans = none ∧ ∃ I' ds, h' = (sh0, I', L, R) ∧ isDec ds X ∧ ds.length ≤ 162 ∧ wtRep I' (l ++ asc ds) ∧ wtK I I') := by
  intro k9
  induction k9 using Nat.strongRecOn with
  | _ k9 ih =>
    intro c hi hk9 ds  I1  hds hdl hw hk
    cases c with
    | zero =>
      refine aX_iload_n dX11_write_31 rfl ?_
      refine aX_if_lt (tgt := 147) dX11_write_32 (by decide) (fun c1 => ?_) (fun c1 => ?_)
      · exact rV dX11_write_147 rfl (⟨rfl, I1, ds, rfl, by
                have := (hds.resolve_left (by omega)).2
                rw [hPw_0, Nat.div_one] at this
                exact this, by omega, hw, hk⟩)
      · exact absurd (by decide) c1
    | succ c =>
      refine aX_iload_n dX11_write_31 rfl ?_
      refine aX_if_lt (tgt := 147) dX11_write_32 (by decide) (fun c2 => ?_) (fun c2 => ?_)
      · exact absurd c2 (nI_pos (by omega))
      · refine aX_aload_n dX11_write_35 rfl ?_
        refine aX_get dX11_write_36 lfX11_113 s159 (f159_40 hR) ?_
        refine aX_bipush (v := nI 18) dX11_write_39 (by decide) ?_
        refine aX_iload_n dX11_write_41 rfl ?_
        refine nMul dX11_write_42 ?_
        refine aX_iload_n dX11_write_43 rfl ?_
        refine nAdd dX11_write_44 ?_
        refine nLald (v := lN (hDg X c)) dX11_write_45 s191 (by first | omega | exact Nat.lt_of_le_of_lt (Nat.mod_le _ _) (by omega)) (by decide) (hX c (by omega)) ?_
        refine aX_lstore (lv' := [(0, .ref 159), (1, .int (nI (x))), (2, .int (nI (tp))), (3, .int (nI (c))), (4, .long (lN (hDg X c)))]) dX11_write_46 (by decide) rfl ?_
        refine aX_ldc2 (v := lN 100000000) dX11_write_48 lkX11_290 ?_
        refine aX_lstore (lv' := [(0, .ref 159), (1, .int (nI (x))), (2, .int (nI (tp))), (3, .int (nI (c))), (4, .long (lN (hDg X c))), (6, .long (lN (100000000)))]) dX11_write_51 (by decide) rfl ?_
        have hdg := hDg_lt X c
        have hlen : (l ++ asc ds).length = l.length + ds.length := by rw [List.length_append, asc_len]
        by_cases etp : c = tp
        · subst etp
          have hds0 : ds = [] := (hds.elim (fun g => g.2) (fun g => by omega))
          subst hds0
          refine ml_wrS hx (by omega) hdg (fun u hu hr hne => ?_) _ 8 (Nat.le_refl _) rfl hdg
          have hpu : 10 ^ u = 10 ^ (u + 1) / 10 := (u_s u).symm
          rw [hpu]
          refine ml_wrD (X := X) hR hx (l := l ++ asc []) (by omega) (m0 := u + 1) (by omega) hdg (fun I2 e he hw2 hk2 => ?_) _ (u + 1) (Nat.le_refl _) rfl _ [] I1 (dgE_0 hr) (by rw [show asc [] = [] from rfl, List.append_nil]; exact hw) wtK_refl
          have hel := he.2.1
          have hdec := first_dec he hne
          have hX2 : hDg X c = X / hPw c := hDg_top (by exact htX)
          refine aX_iinc (v := (nI (c)) + (-1)) (lv' := [(0, .ref 159), (1, .int (nI (x))), (2, .int (nI (c))), (3, .int ((nI (c)) + (-1)))]) dX11_write_141 rfl rfl (by decide) rfl ?_
          refine aX_goto (tgt := 31) dX11_write_144 (by decide) ?_
          refine aX_lv (lv' := [(0, .ref 159), (1, .int (nI (x))), (2, .int (nI (c))), (3, .int (jDn c))]) [0, 1, 2, 3] (by rw [← jDn_dec]; rfl) ?_
          exact ih c (by omega) c (by omega) rfl e I2 (Or.inr ⟨by omega, by rw [← hX2]; exact hdec⟩) (by omega) (by rw [show asc [] = [] from rfl, List.append_nil] at hw2; exact hw2) (wtK_trans hk hk2)
        · have etp2 : c < tp := by omega
          have hds2 : isDec ds (X / hPw (c + 1)) := (hds.resolve_left (by omega)).2
          have hV : 0 < X / hPw (c + 1) := by
            have h1 : hPw tp ≤ X := htn.resolve_left (by omega)
            exact Nat.div_pos (Nat.le_trans (hPw_le (by omega)) h1) (hPw_pos _)
          refine aX_iload_n dX11_write_53 rfl ?_
          refine aX_iload_n dX11_write_54 rfl ?_
          refine nNe (tgt := 86) dX11_write_55 (by decide) (by first | omega | exact Nat.lt_of_le_of_lt (Nat.mod_le _ _) (by omega)) (by first | omega | exact Nat.lt_of_le_of_lt (Nat.mod_le _ _) (by omega)) (fun c1 => ?_) (fun c1 => ?_)
          · rw [show (100000000 : Nat) = 10 ^ 9 / 10 from rfl]
            refine ml_wrD (X := X) hR hx (l := l ++ asc ds) (by omega) (m0 := 9) (Nat.le_refl _) hdg (fun I2 e he hw2 hk2 => ?_) _ 9 (Nat.le_refl _) rfl _ [] I1 (dgE_0 hdg) (by rw [show asc [] = [] from rfl, List.append_nil]; exact hw) wtK_refl
            have hel := he.2.1
            have hdec := more_dec hds2 hV he
            rw [← hDg_high] at hdec
            refine aX_iinc (v := (nI (c)) + (-1)) (lv' := [(0, .ref 159), (1, .int (nI (x))), (2, .int (nI (tp))), (3, .int ((nI (c)) + (-1)))]) dX11_write_141 rfl rfl (by decide) rfl ?_
            refine aX_goto (tgt := 31) dX11_write_144 (by decide) ?_
            refine aX_lv (lv' := [(0, .ref 159), (1, .int (nI (x))), (2, .int (nI (tp))), (3, .int (jDn c))]) [0, 1, 2, 3] (by rw [← jDn_dec]; rfl) ?_
            exact ih c (by omega) c (by omega) rfl (ds ++ e) I2 (Or.inr ⟨by omega, hdec⟩) (by rw [List.length_append]; omega) (by rw [asc_app, ← List.append_assoc]; exact hw2) (wtK_trans hk hk2)
          · exact absurd c1 etp
set_option maxHeartbeats 1000000 in
theorem ml_wrT {I : Nat → Nat → Int32} {L : Nat → Nat → Int64} {R : Nat → Nat → Option Nat} (hR : aRf R) {x : Nat} (hx : x < 12) {X : Nat} (hX : hD L x X) (hX1 : X < hPw 18) {l : List Nat} (hl : l.length ≤ 180) (hw : wtRep I l) {tp : Nat} (htp : tp < 18) (htX : X < hPw (tp + 1)) (htn : tp = 0 ∨ hPw tp ≤ X) : aX mX11_write aE0 (sh0, I, L, R) 29 [(0, .ref 159), (1, .int (nI x)), (2, .int (nI tp))] [] 0 0 (fun ans h' => ans = none ∧ ∃ I' ds, h' = (sh0, I', L, R) ∧ isDec ds X ∧ ds.length ≤ 162 ∧ wtRep I' (l ++ asc ds) ∧ wtK I I') := by
  refine aX_iload_n dX11_write_29 rfl ?_
  refine aX_istore_n (lv' := [(0, .ref 159), (1, .int (nI (x))), (2, .int (nI (tp))), (3, .int (nI (tp)))]) dX11_write_30 (by decide) rfl ?_
  refine aX_lv (lv' := [(0, .ref 159), (1, .int (nI (x))), (2, .int (nI (tp))), (3, .int (jDn (tp + 1)))]) [0, 1, 2, 3] rfl ?_
  exact ml_wrL hR hx hX hX1 hl htp htX htn _ (tp + 1) (Nat.le_refl _) rfl [] I (Or.inl ⟨rfl, rfl⟩) (by simp) (by rw [show asc [] = [] from rfl, List.append_nil]; exact hw) wtK_refl
set_option maxHeartbeats 1000000 in
theorem ml_wrU {I : Nat → Nat → Int32} {L : Nat → Nat → Int64} {R : Nat → Nat → Option Nat} (hR : aRf R) {x : Nat} (hx : x < 12) {X : Nat} (hX : hD L x X) (hX1 : X < hPw 18) {l : List Nat} (hl : l.length ≤ 180) (hw : wtRep I l) : ∀ (k9 tp : Nat), tp < 18 → tp = k9 → X < hPw (tp + 1) → aX mX11_write aE0 (sh0, I, L, R) 3 [(0, .ref 159), (1, .int (nI x)), (2, .int (nI tp))] [] 0 0 (fun ans h' => ans = none ∧ ∃ I' ds, h' = (sh0, I', L, R) ∧ isDec ds X ∧ ds.length ≤ 162 ∧ wtRep I' (l ++ asc ds) ∧ wtK I I') := by
  intro k9
  induction k9 using Nat.strongRecOn with
  | _ k9 ih =>
    intro tp htp hk9 hXc
    cases tp with
    | zero =>
      refine aX_iload_n dX11_write_3 rfl ?_
      refine nIf_le (tgt := 29) dX11_write_4 (by decide) (by first | omega | exact Nat.lt_of_le_of_lt (Nat.mod_le _ _) (by omega)) (fun c1 => ?_) (fun c1 => ?_)
      · exact ml_wrT hR hx hX hX1 hl hw (tp := 0) (by decide) hXc (Or.inl rfl)
      · exact absurd c1 (by omega)
    | succ tp =>
      have hdl := hDg_lt X (tp + 1)
      refine aX_iload_n dX11_write_3 rfl ?_
      refine nIf_le (tgt := 29) dX11_write_4 (by decide) (by first | omega | exact Nat.lt_of_le_of_lt (Nat.mod_le _ _) (by omega)) (fun c2 => ?_) (fun c2 => ?_)
      · exact absurd c2 (by omega)
      · refine aX_aload_n dX11_write_7 rfl ?_
        refine aX_get dX11_write_8 lfX11_113 s159 (f159_40 hR) ?_
        refine aX_bipush (v := nI 18) dX11_write_11 (by decide) ?_
        refine aX_iload_n dX11_write_13 rfl ?_
        refine nMul dX11_write_14 ?_
        refine aX_iload_n dX11_write_15 rfl ?_
        refine nAdd dX11_write_16 ?_
        refine nLald (v := lN (hDg X (tp + 1))) dX11_write_17 s191 (by first | omega | exact Nat.lt_of_le_of_lt (Nat.mod_le _ _) (by omega)) (by decide) (hX (tp + 1) (by omega)) ?_
        refine aX_lconst (v := lN 0) dX11_write_18 rfl ?_
        refine aX_lcmp dX11_write_19 ?_
        refine kIf_ne (tgt := 29) dX11_write_20 (by decide) (by first | omega | exact Nat.lt_of_le_of_lt (Nat.mod_le _ _) (by omega)) (by first | omega | exact Nat.lt_of_le_of_lt (Nat.mod_le _ _) (by omega)) (fun c3 => ?_) (fun c3 => ?_)
        · have hdz : hDg X (tp + 1) ≠ 0 := c3
          exact ml_wrT hR hx hX hX1 hl hw (tp := tp + 1) (by omega) hXc (Or.inr (Nat.le_of_not_lt (fun z => hdz (hDg_hi z))))
        · have hdz : hDg X (tp + 1) = 0 := c3
          refine nDec (lv' := [(0, .ref 159), (1, .int (nI (x))), (2, .int (nI (tp)))]) dX11_write_23 rfl rfl (by decide) rfl ?_
          refine aX_goto (tgt := 3) dX11_write_26 (by decide) ?_
          exact ih tp (by omega) tp (by omega) rfl (Nat.lt_of_not_le (fun z => by
            have h1 := hDg_top hXc
            have h2 : 0 < X / hPw (tp + 1) := Nat.div_pos z (hPw_pos _)
            omega))
set_option maxHeartbeats 1000000 in
theorem m_write {I : Nat → Nat → Int32} {L : Nat → Nat → Int64} {R : Nat → Nat → Option Nat} (hR : aRf R) {x : Nat} (hx : x < 12) {X : Nat} (hX : hD L x X) (hX1 : X < hPw 18) {l : List Nat} (hl : l.length ≤ 180) (hw : wtRep I l) : aM mX11_write [.ref 159, .int (nI x)] (sh0, I, L, R) (fun ans h' => ans = none ∧ ∃ I' ds, h' = (sh0, I', L, R) ∧ isDec ds X ∧ ds.length ≤ 162 ∧ wtRep I' (l ++ asc ds) ∧ wtK I I') := by
  refine aM_of plX11_write (Nat.le_of_ble_eq_true rfl) ?_
  refine aX_bipush (v := nI 17) dX11_write_0 (by decide) ?_
  refine aX_istore_n (lv' := [(0, .ref 159), (1, .int (nI (x))), (2, .int (nI (17)))]) dX11_write_2 (by decide) rfl ?_
  exact ml_wrU hR hx hX hX1 hl hw _ 17 (by decide) rfl hX1
