/-! THE REFERENCE: readings -/
def rsK (s : jN) (r : jR) (b rd : Nat) : Nat → Nat
  | 0 => rd
  | d + 1 => if jOn s (s.1 - (d + 1)) b = true ∧ s.1 - (d + 1) ≠ jBase s b then rsK s r b rd d / r.1 (jTy s b (s.1 - (d + 1))) else rsK s r b rd d
theorem rsK_le (s : jN) (r : jR) (b rd : Nat) : ∀ d, rsK s r b rd d ≤ rd
  | 0 => Nat.le_refl _
  | d + 1 => by
    have := rsK_le s r b rd d
    show (if _ then _ else _) ≤ rd
    split
    · exact Nat.le_trans (Nat.div_le_self _ _) this
    · exact this
def jPos (s : jN) (r : jR) (b : Nat) : Prop := ∀ m, m < s.1 → jOn s m b = true → m ≠ jBase s b → 0 < r.1 (jTy s b m)
theorem jCo_pos {s : jN} {r : jR} {b : Nat} (h : 0 < jCo s r b) : jPos s r b := by
  have gen : ∀ (l : List Nat) (a : Nat), 0 < l.foldl (jCoF s r b) a → 0 < a ∧ ∀ m, m ∈ l → m ≠ jBase s b → 0 < r.1 (jTy s b m) := by
    intro l
    induction l with
    | nil => intro a h; exact ⟨h, fun m hm => by cases hm⟩
    | cons x l ih =>
      intro a h
      obtain ⟨h1, h2⟩ := ih (jCoF s r b a x) h
      unfold jCoF at h1
      by_cases e : x = jBase s b
      · rw [if_pos e] at h1
        refine ⟨h1, fun m hm hne => ?_⟩
        rcases List.mem_cons.mp hm with g | g
        · exact absurd (g.trans e) hne
        · exact h2 m g hne
      · rw [if_neg e] at h1
        refine ⟨Nat.pos_of_mul_pos_right h1, fun m hm hne => ?_⟩
        rcases List.mem_cons.mp hm with g | g
        · rw [g]; exact Nat.pos_of_mul_pos_left h1
        · exact h2 m g hne
  intro m hm hon hne
  exact (gen _ _ h).2 m (jML_mem.mpr ⟨hm, hon⟩) hne
theorem fold_rs {α : Type} (f : α → Nat → α) (l : List Nat) (c : Nat) (v : α) : (l ++ [c]).reverse.foldl f v = l.reverse.foldl f (f v c) := by
  rw [List.reverse_append]; rfl
theorem jOpF_keep {s : jN} {r : jR} {b : Nat} : ∀ (c : Nat) (v : Nat × (Nat → Nat)) (m : Nat), c ≤ m → ((jML s b c).reverse.foldl (jOpF s r b) v).2 m = v.2 m
  | 0, _, _, _ => rfl
  | c + 1, v, m, h => by
    by_cases e : jOn s c b = true
    · rw [jML_t e, fold_rs, jOpF_keep c _ m (by omega)]
      unfold jOpF
      split
      · show va_up v.2 c 36 m = _; simp [va_up, show ¬ m = c by omega]
      · show va_up v.2 c _ m = _; simp [va_up, show ¬ m = c by omega]
    · rw [jML_f (by simpa using e)]
      exact jOpF_keep c v m (by omega)
theorem jOp_rs {s : jN} {r : jR} {b rd : Nat} (hp : jPos s r b) : ∀ d, d ≤ s.1 → ∃ T, jOp s r b rd = (jML s b (s.1 - d)).reverse.foldl (jOpF s r b) (rsK s r b rd d, T)
  | 0, _ => ⟨fun _ => 36, by unfold jOp jMem; rw [Nat.sub_zero]; rfl⟩
  | d + 1, hd => by
    obtain ⟨T, hT⟩ := jOp_rs (rd := rd) hp d (by omega)
    obtain ⟨c, hc⟩ : ∃ c, s.1 - d = c + 1 := ⟨s.1 - d - 1, by omega⟩
    have hc' : s.1 - (d + 1) = c := by omega
    rw [hc] at hT
    show ∃ T, jOp s r b rd = (jML s b (s.1 - (d + 1))).reverse.foldl (jOpF s r b) (if jOn s (s.1 - (d + 1)) b = true ∧ s.1 - (d + 1) ≠ jBase s b then rsK s r b rd d / r.1 (jTy s b (s.1 - (d + 1))) else rsK s r b rd d, T)
    rw [hc']
    by_cases e : jOn s c b = true
    · rw [jML_t e, fold_rs] at hT
      have hT' := hT
      rw [show jOpF s r b (rsK s r b rd d, T) c = if c = jBase s b ∨ r.1 (jTy s b c) < 1 then (rsK s r b rd d, va_up T c 36) else (rsK s r b rd d / r.1 (jTy s b c), va_up T c (jTy s b c * 3 + rsK s r b rd d % r.1 (jTy s b c))) from rfl] at hT'
      by_cases e2 : c = jBase s b
      · rw [if_neg (fun y => y.2 e2)]
        rw [if_pos (Or.inl e2)] at hT'
        exact ⟨_, hT'⟩
      · rw [if_pos ⟨e, e2⟩]
        have := hp c (by omega) e e2
        rw [if_neg (by omega)] at hT'
        exact ⟨_, hT'⟩
    · rw [if_neg (fun y => e y.1)]
      rw [jML_f (by simpa using e)] at hT
      exact ⟨_, hT⟩
theorem jSl_rs {s : jN} {r : jR} {b rd m : Nat} (hp : jPos s r b) (hm : m < s.1) (hon : jOn s m b = true) : jSl s r b rd m = if m = jBase s b then 36 else jTy s b m * 3 + rsK s r b rd (s.1 - 1 - m) % r.1 (jTy s b m) := by
  obtain ⟨T, hT⟩ := jOp_rs (rd := rd) hp (s.1 - 1 - m) (by omega)
  rw [show s.1 - (s.1 - 1 - m) = m + 1 by omega, jML_t hon, fold_rs] at hT
  unfold jSl
  rw [hT, jOpF_keep m _ m (Nat.le_refl _)]
  unfold jOpF
  by_cases e : m = jBase s b
  · rw [if_pos e, if_pos (Or.inl e)]; show va_up T m 36 m = 36; simp [va_up]
  · have := hp m hm hon e
    rw [if_neg e, if_neg (by omega)]; show va_up T m _ m = _; simp [va_up]
theorem hsZ_snoc (g : Nat → Nat → Int) (x : Nat) : ∀ (l : List Nat) (a : Int), hsZ g (l ++ [x]) a = hsZ g l a + ls (fun m => g m x) l
  | [], a => by show a = a + 0; omega
  | m :: l, a => by
    have key : ∀ (l : List Nat) (a b : Int), hsZ g l (a + b) = hsZ g l a + b := by
      intro l
      induction l with
      | nil => intro a b; rfl
      | cons y l ih =>
        intro a b
        have f : ∀ (l : List Nat) (a b : Int), l.foldl (fun a x => a + g y x) (a + b) = l.foldl (fun a x => a + g y x) a + b := by
          intro l
          induction l with
          | nil => intro a b; rfl
          | cons z l ihl => intro a b; show l.foldl _ (a + b + g y z) = l.foldl _ (a + g y z) + b; rw [show a + b + g y z = a + g y z + b by omega, ihl]
        show hsZ g l (l.foldl _ (a + b)) = hsZ g l (l.foldl _ a) + b
        rw [f, ih]
    show hsZ g (l ++ [x]) ((l ++ [x]).foldl (fun a x => a + g m x) a) = hsZ g l (l.foldl (fun a x => a + g m x) a) + (g m x + ls (fun m => g m x) l)
    rw [List.foldl_append, hsZ_snoc g x l]
    show hsZ g l (l.foldl (fun a x => a + g m x) a + g m x) + _ = _
    rw [key]; omega
theorem hzI_symm (F G : Nat → Int) : ∀ n, hzI F G n = hzI G F n
  | 0 => rfl
  | n + 1 => by
    show hzI F G n + _ = hzI G F n + _
    rw [hzI_symm F G n, show (F (n + 1) - G (n + 1)).natAbs = (G (n + 1) - F (n + 1)).natAbs by omega]
set_option maxHeartbeats 1000000 in
theorem ml_ratioOf {I : Nat → Nat → Int32} {L : Nat → Nat → Int64} {R : Nat → Nat → Option Nat} (hR : aRf R) {s : jN} (hs : mnRep I s) (ho : jOk s) (hS : msRep I s (jS s)) {r : jR} (hl : mlRep I r) {k : Nat} {q : Nat × Nat} (hq : (jS s)[k]? = some q) (hp : jPos s r q.1) {rd : Nat} (hrd : rd < 2 ^ 31) {m : Nat} (hm : m < s.1) (hon : jOn s m q.1 = true) (hne : m ≠ jBase s q.1) : ∀ (k9 j : Nat), m ≤ j → j < s.1 → j - m = k9 → aX mX11_ratioOf aE0 (sh0, I, L, R) 24 [(0, .ref 159), (1, .int (nI (k))), (2, .int (nI (rd))), (3, .int (nI (m))), (4, .int (nI (rsK s r q.1 rd (s.1 - 1 - j)))), (5, .int (nI (j)))] [] 0 0 (fun ans h' => h' = (sh0, I, L, R) ∧ ans = some (.int (rQ (jSl s r q.1 rd m)))) := by
  intro k9
  induction k9 using Nat.strongRecOn with
  | _ k9 ih =>
    intro j hmj hjn hk9
    have hn := ho.1
    have hSl := jS_len s
    have hkl : k < (jS s).length := (List.getElem?_eq_some_iff.mp hq).1
    have hsi := jS_in hq
    have hbb := (jBase_in hsi.2.2).2.1
    have hrs0 := rsK_le s r q.1 rd (s.1 - 1 - j)
    refine aX_iload dX11_ratioOf_24 rfl ?_
    refine aX_iload_n dX11_ratioOf_26 rfl ?_
    refine nLe (tgt := 79) dX11_ratioOf_27 (by decide) (by first | omega | exact Nat.lt_of_le_of_lt (Nat.mod_le _ _) (by omega)) (by first | omega | exact Nat.lt_of_le_of_lt (Nat.mod_le _ _) (by omega)) (fun c1 => ?_) (fun c1 => ?_)
    · obtain rfl : m = j := by omega
      have hty : jTy s q.1 m < 12 := Nat.mod_lt _ (by decide)
      have hr0 := hp m hm hon hne
      have hrk := (hl.1 _ hty).1
      have h3 : rsK s r q.1 rd (s.1 - 1 - m) % r.1 (jTy s q.1 m) < r.1 (jTy s q.1 m) := Nat.mod_lt _ hr0
      refine aX_aload_n dX11_ratioOf_79 rfl ?_
      refine aX_iload_n dX11_ratioOf_80 rfl ?_
      refine aX_iload_n dX11_ratioOf_81 rfl ?_
      refine cVp (As := [.int (nI (k)), .int (nI (m))]) (st := []) (v := .int (nI (jTy s q.1 m))) dX11_ratioOf_82 kX11_ratioOf_167 s159 aEok0 rfl rfl (Nat.le_of_ble_eq_true rfl) (m_typeOf hR hs ho hS hSl hq (by omega) (by assumption)) ?_
      refine aX_istore (lv' := [(0, .ref 159), (1, .int (nI (k))), (2, .int (nI (rd))), (3, .int (nI (m))), (4, .int (nI (rsK s r q.1 rd (s.1 - 1 - m)))), (5, .int (nI (jTy s q.1 m)))]) dX11_ratioOf_85 (by decide) rfl ?_
      refine aX_iconst (v := nI 3) dX11_ratioOf_87 (by decide) ?_
      refine aX_iload dX11_ratioOf_88 rfl ?_
      refine nMul dX11_ratioOf_90 ?_
      refine aX_iload dX11_ratioOf_91 rfl ?_
      refine aX_aload_n dX11_ratioOf_93 rfl ?_
      refine aX_get dX11_ratioOf_94 lfX11_23 s159 (f159_5 hR) ?_
      refine aX_iload dX11_ratioOf_97 rfl ?_
      refine nIald (v := nI (r.1 (jTy s q.1 m))) dX11_ratioOf_99 s164 (by first | omega | exact Nat.lt_of_le_of_lt (Nat.mod_le _ _) (by omega)) (by decide) (hl.2.1 _ hty) ?_
      refine nRem dX11_ratioOf_100 (by first | omega | exact Nat.lt_of_le_of_lt (Nat.mod_le _ _) (by omega)) (by first | omega | exact Nat.lt_of_le_of_lt (Nat.mod_le _ _) (by omega)) (by first | omega | exact Nat.lt_of_le_of_lt (Nat.mod_le _ _) (by omega)) ?_
      refine nAdd dX11_ratioOf_101 ?_
      exact rI dX11_ratioOf_102 rfl (⟨rfl, by rw [jSl_rs hp hm hon, if_neg hne]; unfold rQ; rw [if_neg (by omega), Nat.mul_comm 3]⟩)
    · obtain ⟨d, rfl⟩ : ∃ d, j = d + 1 := ⟨j - 1, by omega⟩
      have hstep : s.1 - 1 - d = (s.1 - 1 - (d + 1)) + 1 := by omega
      have hidx : s.1 - (s.1 - 1 - (d + 1) + 1) = d + 1 := by omega
      have hrs := rsK_le s r q.1 rd (s.1 - 1 - (d + 1))
      refine aX_aload_n dX11_ratioOf_30 rfl ?_
      refine aX_iload_n dX11_ratioOf_31 rfl ?_
      refine aX_iload dX11_ratioOf_32 rfl ?_
      refine cVp (As := [.int (nI (k)), .int (nI (d + 1))]) (st := []) (v := .int (bI (jOn s (d + 1) q.1))) dX11_ratioOf_34 kX11_ratioOf_163 s159 aEok0 rfl rfl (Nat.le_of_ble_eq_true rfl) (m_sounds0 hR hs ho hS hSl hq (by omega)) ?_
      refine bEq (tgt := 69) dX11_ratioOf_37 (by decide) (fun c2 => ?_) (fun c2 => ?_)
      · have hnx : rsK s r q.1 rd (s.1 - 1 - d) = rsK s r q.1 rd (s.1 - 1 - (d + 1)) := by rw [hstep]; show (if _ then _ else _) = _; rw [hidx, if_neg (by rw [c2]; simp)]
        refine aX_iload dX11_ratioOf_69 rfl ?_
        refine aX_istore (lv' := [(0, .ref 159), (1, .int (nI (k))), (2, .int (nI (rd))), (3, .int (nI (m))), (4, .int (nI (rsK s r q.1 rd (s.1 - 1 - (d + 1))))), (5, .int (nI (d + 1)))]) dX11_ratioOf_71 (by decide) rfl ?_
        refine nDec (lv' := [(0, .ref 159), (1, .int (nI (k))), (2, .int (nI (rd))), (3, .int (nI (m))), (4, .int (nI (rsK s r q.1 rd (s.1 - 1 - (d + 1))))), (5, .int (nI (d)))]) dX11_ratioOf_73 rfl rfl (by decide) rfl ?_
        refine aX_goto (tgt := 24) dX11_ratioOf_76 (by decide) ?_
        rw [← hnx]
        exact ih (d - m) (by omega) d (by omega) (by omega) rfl
      · have hond : jOn s (d + 1) q.1 = true := c2
        refine aX_iload dX11_ratioOf_40 rfl ?_
        refine aX_aload_n dX11_ratioOf_42 rfl ?_
        refine aX_get dX11_ratioOf_43 lfX11_60 s159 (f159_18 hR) ?_
        refine aX_iload_n dX11_ratioOf_46 rfl ?_
        refine nIald (v := nI (jBase s q.1)) dX11_ratioOf_47 s174 (by first | omega | exact Nat.lt_of_le_of_lt (Nat.mod_le _ _) (by omega)) (by decide) ((hS.2 k q hq).2.2.2.1) ?_
        refine nEq (tgt := 69) dX11_ratioOf_48 (by decide) (by first | omega | exact Nat.lt_of_le_of_lt (Nat.mod_le _ _) (by omega)) (by first | omega | exact Nat.lt_of_le_of_lt (Nat.mod_le _ _) (by omega)) (fun c3 => ?_) (fun c3 => ?_)
        · have hnx : rsK s r q.1 rd (s.1 - 1 - d) = rsK s r q.1 rd (s.1 - 1 - (d + 1)) := by rw [hstep]; show (if _ then _ else _) = _; rw [hidx, if_neg (fun y => y.2 c3)]
          refine aX_iload dX11_ratioOf_69 rfl ?_
          refine aX_istore (lv' := [(0, .ref 159), (1, .int (nI (k))), (2, .int (nI (rd))), (3, .int (nI (m))), (4, .int (nI (rsK s r q.1 rd (s.1 - 1 - (d + 1))))), (5, .int (nI (d + 1)))]) dX11_ratioOf_71 (by decide) rfl ?_
          refine nDec (lv' := [(0, .ref 159), (1, .int (nI (k))), (2, .int (nI (rd))), (3, .int (nI (m))), (4, .int (nI (rsK s r q.1 rd (s.1 - 1 - (d + 1))))), (5, .int (nI (d)))]) dX11_ratioOf_73 rfl rfl (by decide) rfl ?_
          refine aX_goto (tgt := 24) dX11_ratioOf_76 (by decide) ?_
          rw [← hnx]
          exact ih (d - m) (by omega) d (by omega) (by omega) rfl
        · have hty : jTy s q.1 (d + 1) < 12 := Nat.mod_lt _ (by decide)
          have hr0 := hp (d + 1) (by omega) hond c3
          have hrk := (hl.1 _ hty).1
          have hnx : rsK s r q.1 rd (s.1 - 1 - d) = rsK s r q.1 rd (s.1 - 1 - (d + 1)) / r.1 (jTy s q.1 (d + 1)) := by rw [hstep]; show (if _ then _ else _) = _; rw [hidx, if_pos ⟨hond, c3⟩]
          refine aX_iload dX11_ratioOf_51 rfl ?_
          refine aX_aload_n dX11_ratioOf_53 rfl ?_
          refine aX_get dX11_ratioOf_54 lfX11_23 s159 (f159_5 hR) ?_
          refine aX_aload_n dX11_ratioOf_57 rfl ?_
          refine aX_iload_n dX11_ratioOf_58 rfl ?_
          refine aX_iload dX11_ratioOf_59 rfl ?_
          refine cVp (As := [.int (nI (k)), .int (nI (d + 1))]) (st := [.ref 164, .int (nI (rsK s r q.1 rd (s.1 - 1 - (d + 1))))]) (v := .int (nI (jTy s q.1 (d + 1)))) dX11_ratioOf_61 kX11_ratioOf_167 s159 aEok0 rfl rfl (Nat.le_of_ble_eq_true rfl) (m_typeOf hR hs ho hS hSl hq (by omega) (by assumption)) ?_
          refine nIald (v := nI (r.1 (jTy s q.1 (d + 1)))) dX11_ratioOf_64 s164 (by first | omega | exact Nat.lt_of_le_of_lt (Nat.mod_le _ _) (by omega)) (by decide) (hl.2.1 _ hty) ?_
          refine nDiv dX11_ratioOf_65 (by first | omega | exact Nat.lt_of_le_of_lt (Nat.mod_le _ _) (by omega)) (by first | omega | exact Nat.lt_of_le_of_lt (Nat.mod_le _ _) (by omega)) (by first | omega | exact Nat.lt_of_le_of_lt (Nat.mod_le _ _) (by omega)) ?_
          refine aX_goto (tgt := 71) dX11_ratioOf_66 (by decide) ?_
          refine aX_istore (lv' := [(0, .ref 159), (1, .int (nI (k))), (2, .int (nI (rd))), (3, .int (nI (m))), (4, .int (nI ((rsK s r q.1 rd (s.1 - 1 - (d + 1))) / (r.1 (jTy s q.1 (d + 1)))))), (5, .int (nI (d + 1)))]) dX11_ratioOf_71 (by decide) rfl ?_
          refine nDec (lv' := [(0, .ref 159), (1, .int (nI (k))), (2, .int (nI (rd))), (3, .int (nI (m))), (4, .int (nI ((rsK s r q.1 rd (s.1 - 1 - (d + 1))) / (r.1 (jTy s q.1 (d + 1)))))), (5, .int (nI (d)))]) dX11_ratioOf_73 rfl rfl (by decide) rfl ?_
          refine aX_goto (tgt := 24) dX11_ratioOf_76 (by decide) ?_
          rw [← hnx]
          exact ih (d - m) (by omega) d (by omega) (by omega) rfl
set_option maxHeartbeats 1000000 in
theorem m_ratioOf {I : Nat → Nat → Int32} {L : Nat → Nat → Int64} {R : Nat → Nat → Option Nat} (hR : aRf R) {s : jN} (hs : mnRep I s) (ho : jOk s) (hS : msRep I s (jS s)) {r : jR} (hl : mlRep I r) {k : Nat} {q : Nat × Nat} (hq : (jS s)[k]? = some q) (hp : jPos s r q.1) {rd : Nat} (hrd : rd < 2 ^ 31) {m : Nat} (hm : m < s.1) (hon : jOn s m q.1 = true) : aM mX11_ratioOf [.ref 159, .int (nI k), .int (nI rd), .int (nI m)] (sh0, I, L, R) (fun ans h' => h' = (sh0, I, L, R) ∧ ans = some (.int (rQ (jSl s r q.1 rd m)))) := by
  have hn := ho.1
  have hSl := jS_len s
  have hkl : k < (jS s).length := (List.getElem?_eq_some_iff.mp hq).1
  have hsi := jS_in hq
  have hbb := (jBase_in hsi.2.2).2.1
  refine aM_of plX11_ratioOf (Nat.le_of_ble_eq_true rfl) ?_
  refine aX_iload_n dX11_ratioOf_0 rfl ?_
  refine aX_aload_n dX11_ratioOf_1 rfl ?_
  refine aX_get dX11_ratioOf_2 lfX11_60 s159 (f159_18 hR) ?_
  refine aX_iload_n dX11_ratioOf_5 rfl ?_
  refine nIald (v := nI (jBase s q.1)) dX11_ratioOf_6 s174 (by first | omega | exact Nat.lt_of_le_of_lt (Nat.mod_le _ _) (by omega)) (by decide) ((hS.2 k q hq).2.2.2.1) ?_
  refine nNe (tgt := 13) dX11_ratioOf_7 (by decide) (by first | omega | exact Nat.lt_of_le_of_lt (Nat.mod_le _ _) (by omega)) (by first | omega | exact Nat.lt_of_le_of_lt (Nat.mod_le _ _) (by omega)) (fun c1 => ?_) (fun c1 => ?_)
  · refine aX_iload_n dX11_ratioOf_13 rfl ?_
    refine aX_istore (lv' := [(0, .ref 159), (1, .int (nI (k))), (2, .int (nI (rd))), (3, .int (nI (m))), (4, .int (nI (rd)))]) dX11_ratioOf_14 (by decide) rfl ?_
    refine aX_aload_n dX11_ratioOf_16 rfl ?_
    refine aX_get (v := .int (nI (s.1))) dX11_ratioOf_17 lfX11_150 s159 (congrArg Value.int (hs.1)) ?_
    refine aX_iconst (v := nI 1) dX11_ratioOf_20 (by decide) ?_
    refine nSub dX11_ratioOf_21 (by first | omega | exact Nat.lt_of_le_of_lt (Nat.mod_le _ _) (by omega)) ?_
    refine aX_istore (lv' := [(0, .ref 159), (1, .int (nI (k))), (2, .int (nI (rd))), (3, .int (nI (m))), (4, .int (nI (rd))), (5, .int (nI (s.1 - 1)))]) dX11_ratioOf_22 (by decide) rfl ?_
    refine aX_lv (lv' := [(0, .ref 159), (1, .int (nI k)), (2, .int (nI rd)), (3, .int (nI m)), (4, .int (nI (rsK s r q.1 rd (s.1 - 1 - (s.1 - 1))))), (5, .int (nI (s.1 - 1)))]) [0, 1, 2, 3, 4, 5] (by rw [Nat.sub_self]; rfl) ?_
    exact ml_ratioOf hR hs ho hS hl hq hp hrd hm hon c1 _ (s.1 - 1) (by omega) (by omega) rfl
  · refine aX_bipush (v := (-9)) dX11_ratioOf_10 (by decide) ?_
    exact rI dX11_ratioOf_12 rfl (⟨rfl, by rw [jSl_rs hp hm hon, if_pos c1]; rfl⟩)
set_option maxHeartbeats 1000000 in
theorem ml_targetOf {I : Nat → Nat → Int32} {L : Nat → Nat → Int64} {R : Nat → Nat → Option Nat} (hR : aRf R) {s : jN} (hs : mnRep I s) (ho : jOk s) (hS : msRep I s (jS s)) {r : jR} (hl : mlRep I r) {k : Nat} {q : Nat × Nat} (hq : (jS s)[k]? = some q) (hp : jPos s r q.1) {rd : Nat} (hrd : rd < 2 ^ 31) {m : Nat} (hm : m < s.1) (hon : jOn s m q.1 = true) : ∀ (k9 i : Nat), i ≤ 6 → 6 - i = k9 → aX mX11_targetOf aE0 (sh0, I, L, R) 23 [(0, .ref 159), (1, .int (nI (k))), (2, .int (nI (rd))), (3, .int (nI (m))), (4, .int (rQ (jSl s r q.1 rd m))), (5, .int (nI (120000 * (jSt s q.1 m / 12)) + jSzF (jU r (jSl s r q.1 rd m)) (jD r (jSl s r q.1 rd m)) i)), (6, .int (nI (i)))] [] 0 0 (fun ans h' => h' = (sh0, I, L, R) ∧ ans = some (.int (jTg s r q.1 rd m))) := by
  intro k9
  induction k9 using Nat.strongRecOn with
  | _ k9 ih =>
    intro i hi hk9  
    refine aX_iload dX11_targetOf_23 rfl ?_
    refine aX_bipush (v := nI 6) dX11_targetOf_25 (by decide) ?_
    refine nGe (tgt := 57) dX11_targetOf_27 (by decide) (by first | omega | exact Nat.lt_of_le_of_lt (Nat.mod_le _ _) (by omega)) (by first | omega | exact Nat.lt_of_le_of_lt (Nat.mod_le _ _) (by omega)) (fun c1 => ?_) (fun c1 => ?_)
    · refine aX_iload dX11_targetOf_57 rfl ?_
      exact rI dX11_targetOf_59 rfl (⟨rfl, by rw [show i = 6 by omega]; rfl⟩)
    · refine aX_iload dX11_targetOf_30 rfl ?_
      refine aX_aload_n dX11_targetOf_32 rfl ?_
      refine aX_iload dX11_targetOf_33 rfl ?_
      refine aX_iload dX11_targetOf_35 rfl ?_
      refine cVp (As := [.int (rQ (jSl s r q.1 rd m)), .int (nI (i))]) (st := [.int (nI (120000 * (jSt s q.1 m / 12)) + jSzF (jU r (jSl s r q.1 rd m)) (jD r (jSl s r q.1 rd m)) i)]) (v := .int (jPd (jU r (jSl s r q.1 rd m)) (jD r (jSl s r q.1 rd m)) i)) dX11_targetOf_37 kX11_targetOf_177 s159 aEok0 rfl rfl (Nat.le_of_ble_eq_true rfl) (m_power hR hl (jSl_ok _ _ _ _ _) (by omega)) ?_
      refine aX_aload_n dX11_targetOf_40 rfl ?_
      refine aX_get dX11_targetOf_41 lfX11_44 s159 (f159_10 hR) ?_
      refine aX_iload dX11_targetOf_44 rfl ?_
      refine nIald (v := jLg i) dX11_targetOf_46 s169 (by first | omega | exact Nat.lt_of_le_of_lt (Nat.mod_le _ _) (by omega)) (by decide) ((hl.2.2.2 i (by omega)).2) ?_
      refine aX_imul dX11_targetOf_47 ?_
      refine aX_iadd dX11_targetOf_48 ?_
      refine aX_istore (lv' := [(0, .ref 159), (1, .int (nI (k))), (2, .int (nI (rd))), (3, .int (nI (m))), (4, .int (rQ (jSl s r q.1 rd m))), (5, .int ((nI (120000 * (jSt s q.1 m / 12)) + jSzF (jU r (jSl s r q.1 rd m)) (jD r (jSl s r q.1 rd m)) i) + ((jPd (jU r (jSl s r q.1 rd m)) (jD r (jSl s r q.1 rd m)) i) * (jLg i)))), (6, .int (nI (i)))]) dX11_targetOf_49 (by decide) rfl ?_
      refine nInc (lv' := [(0, .ref 159), (1, .int (nI (k))), (2, .int (nI (rd))), (3, .int (nI (m))), (4, .int (rQ (jSl s r q.1 rd m))), (5, .int ((nI (120000 * (jSt s q.1 m / 12)) + jSzF (jU r (jSl s r q.1 rd m)) (jD r (jSl s r q.1 rd m)) i) + ((jPd (jU r (jSl s r q.1 rd m)) (jD r (jSl s r q.1 rd m)) i) * (jLg i)))), (6, .int (nI (i + 1)))]) dX11_targetOf_51 rfl rfl (by decide) rfl ?_
      refine aX_goto (tgt := 23) dX11_targetOf_54 (by decide) ?_
      refine aX_lv (lv' := [(0, .ref 159), (1, .int (nI k)), (2, .int (nI rd)), (3, .int (nI m)), (4, .int (rQ (jSl s r q.1 rd m))), (5, .int (nI (120000 * (jSt s q.1 m / 12)) + jSzF (jU r (jSl s r q.1 rd m)) (jD r (jSl s r q.1 rd m)) (i + 1))), (6, .int (nI (i + 1)))]) [0, 1, 2, 3, 4, 5, 6] (by show _ = [_, _, _, _, _, (5, Value.int (nI (120000 * (jSt s q.1 m / 12)) + (jSzF (jU r (jSl s r q.1 rd m)) (jD r (jSl s r q.1 rd m)) i + jPd (jU r (jSl s r q.1 rd m)) (jD r (jSl s r q.1 rd m)) i * jLg i))), _]; rw [← Int32.add_assoc]; rfl) ?_
      exact ih (6 - (i + 1)) (by omega) (i + 1) (by omega) rfl
set_option maxHeartbeats 1000000 in
theorem m_targetOf {I : Nat → Nat → Int32} {L : Nat → Nat → Int64} {R : Nat → Nat → Option Nat} (hR : aRf R) {s : jN} (hs : mnRep I s) (ho : jOk s) (hS : msRep I s (jS s)) {r : jR} (hl : mlRep I r) {k : Nat} {q : Nat × Nat} (hq : (jS s)[k]? = some q) (hp : jPos s r q.1) {rd : Nat} (hrd : rd < 2 ^ 31) {m : Nat} (hm : m < s.1) (hon : jOn s m q.1 = true) : aM mX11_targetOf [.ref 159, .int (nI k), .int (nI rd), .int (nI m)] (sh0, I, L, R) (fun ans h' => h' = (sh0, I, L, R) ∧ ans = some (.int (jTg s r q.1 rd m))) := by
  have hn := ho.1
  have hSl := jS_len s
  have hkl : k < (jS s).length := (List.getElem?_eq_some_iff.mp hq).1
  have hsi := jS_in hq
  have hbb := (jBase_in hsi.2.2).2.1
  refine aM_of plX11_targetOf (Nat.le_of_ble_eq_true rfl) ?_
  refine aX_aload_n dX11_targetOf_0 rfl ?_
  refine aX_iload_n dX11_targetOf_1 rfl ?_
  refine aX_iload_n dX11_targetOf_2 rfl ?_
  refine aX_iload_n dX11_targetOf_3 rfl ?_
  refine cVp (As := [.int (nI (k)), .int (nI (rd)), .int (nI (m))]) (st := []) (v := .int (rQ (jSl s r q.1 rd m))) dX11_targetOf_4 kX11_targetOf_170 s159 aEok0 rfl rfl (Nat.le_of_ble_eq_true rfl) (m_ratioOf hR hs ho hS hl hq hp hrd (m := m) (by omega) (by assumption)) ?_
  refine aX_istore (lv' := [(0, .ref 159), (1, .int (nI (k))), (2, .int (nI (rd))), (3, .int (nI (m))), (4, .int (rQ (jSl s r q.1 rd m)))]) dX11_targetOf_7 (by decide) rfl ?_
  refine aX_ldc (v := nI 120000) dX11_targetOf_9 lkX11_38 ?_
  refine aX_aload_n dX11_targetOf_11 rfl ?_
  refine aX_iload_n dX11_targetOf_12 rfl ?_
  refine aX_iload_n dX11_targetOf_13 rfl ?_
  refine cVp (As := [.int (nI (k)), .int (nI (m))]) (st := [.int (nI (120000))]) (v := .int (nI (jSt s q.1 m / 12))) dX11_targetOf_14 kX11_targetOf_174 s159 aEok0 rfl rfl (Nat.le_of_ble_eq_true rfl) (m_octavesOf hR hs ho hS hSl hq hm hon) ?_
  refine nMul dX11_targetOf_17 ?_
  refine aX_istore (lv' := [(0, .ref 159), (1, .int (nI (k))), (2, .int (nI (rd))), (3, .int (nI (m))), (4, .int (rQ (jSl s r q.1 rd m))), (5, .int (nI (120000 * (jSt s q.1 m / 12))))]) dX11_targetOf_18 (by decide) rfl ?_
  refine aX_iconst (v := nI 0) dX11_targetOf_20 (by decide) ?_
  refine aX_istore (lv' := [(0, .ref 159), (1, .int (nI (k))), (2, .int (nI (rd))), (3, .int (nI (m))), (4, .int (rQ (jSl s r q.1 rd m))), (5, .int (nI (120000 * (jSt s q.1 m / 12)))), (6, .int (nI (0)))]) dX11_targetOf_21 (by decide) rfl ?_
  refine aX_lv (lv' := [(0, .ref 159), (1, .int (nI k)), (2, .int (nI rd)), (3, .int (nI m)), (4, .int (rQ (jSl s r q.1 rd m))), (5, .int (nI (120000 * (jSt s q.1 m / 12)) + jSzF (jU r (jSl s r q.1 rd m)) (jD r (jSl s r q.1 rd m)) 0)), (6, .int (nI 0))]) [0, 1, 2, 3, 4, 5, 6] (by show _ = [_, _, _, _, _, (5, Value.int (nI (120000 * (jSt s q.1 m / 12)) + 0)), _]; rw [Int32.add_zero]; rfl) ?_
  exact ml_targetOf hR hs ho hS hl hq hp hrd hm hon _ 0 (by omega) rfl
set_option maxHeartbeats 1000000 in
theorem ml_harsh3 {I : Nat → Nat → Int32} {L : Nat → Nat → Int64} {R : Nat → Nat → Option Nat} (hR : aRf R) {s : jN} (hs : mnRep I s) (ho : jOk s) (hS : msRep I s (jS s)) {r : jR} (hl : mlRep I r) {k : Nat} {q : Nat × Nat} (hq : (jS s)[k]? = some q) (hp : jPos s r q.1) {rd : Nat} (hrd : rd < 2 ^ 31) {i j : Nat} {A : Int} {Q : Option Value → aH → Prop} (kk : aX mX11_harshOf aE0 (sh0, I, L, R) 125 [(0, .ref 159), (1, .int (nI k)), (2, .int (nI rd)), (3, .int (iZ (A + jHvz r (jSl s r q.1 rd) j i))), (4, .int (nI i)), (5, .int (nI j))] [] 0 0 Q) : ∀ (k9 x : Nat), x ≤ 6 → 6 - x = k9 → 1 ≤ x → aX mX11_harshOf aE0 (sh0, I, L, R) 67 [(0, .ref 159), (1, .int (nI (k))), (2, .int (nI (rd))), (3, .int (iZ (A + hzI (jPz (jU r (jSl s r q.1 rd i)) (jD r (jSl s r q.1 rd i))) (jPz (jU r (jSl s r q.1 rd j)) (jD r (jSl s r q.1 rd j))) (x - 1)))), (4, .int (nI (i))), (5, .int (nI (j))), (6, .int (rQ (jSl s r q.1 rd i))), (7, .int (rQ (jSl s r q.1 rd j))), (8, .int (nI (x)))] [] 0 0 Q := by
  intro k9
  induction k9 using Nat.strongRecOn with
  | _ k9 ih =>
    intro x hi hk9  hx1
    refine aX_iload dX11_harshOf_67 rfl ?_
    refine aX_bipush (v := nI 6) dX11_harshOf_69 (by decide) ?_
    refine nGe (tgt := 125) dX11_harshOf_71 (by decide) (by first | omega | exact Nat.lt_of_le_of_lt (Nat.mod_le _ _) (by omega)) (by first | omega | exact Nat.lt_of_le_of_lt (Nat.mod_le _ _) (by omega)) (fun c1 => ?_) (fun c1 => ?_)
    · obtain rfl : x = 6 := by omega
      refine aX_lv (lv' := [(0, .ref 159), (1, .int (nI k)), (2, .int (nI rd)), (3, .int (iZ (A + jHvz r (jSl s r q.1 rd) j i))), (4, .int (nI i)), (5, .int (nI j))]) [0, 1, 2, 3, 4, 5] (by rw [show jHvz r (jSl s r q.1 rd) j i = hzI (jPz (jU r (jSl s r q.1 rd i)) (jD r (jSl s r q.1 rd i))) (jPz (jU r (jSl s r q.1 rd j)) (jD r (jSl s r q.1 rd j))) (6 - 1) from (hzI_symm _ _ 5).symm ▸ rfl]; rfl) ?_
      exact kk
    · have b1 := jPz_in (jU r (jSl s r q.1 rd i)) (jD r (jSl s r q.1 rd i)) x
      have b2 := jPz_in (jU r (jSl s r q.1 rd j)) (jD r (jSl s r q.1 rd j)) x
      have hjp := jP_in c1
      obtain ⟨y, rfl⟩ : ∃ y, x = y + 1 := ⟨x - 1, by omega⟩
      refine aX_aload_n dX11_harshOf_74 rfl ?_
      refine aX_iload dX11_harshOf_75 rfl ?_
      refine aX_iload dX11_harshOf_77 rfl ?_
      refine cVp (As := [.int (rQ (jSl s r q.1 rd i)), .int (nI (y + 1))]) (st := []) (v := .int (iZ ((jPz (jU r (jSl s r q.1 rd i)) (jD r (jSl s r q.1 rd i))) (y + 1)))) dX11_harshOf_79 kX11_harshOf_177 s159 aEok0 rfl rfl (Nat.le_of_ble_eq_true rfl) (show aMp _ _ _ (.int (iZ ((jPz (jU r (jSl s r q.1 rd i)) (jD r (jSl s r q.1 rd i))) (y + 1)))) from by rw [← congrFun (jPd_eq _ _) (y + 1)]; exact m_power hR hl (jSl_ok _ _ _ _ _) (by omega)) ?_
      refine aX_aload_n dX11_harshOf_82 rfl ?_
      refine aX_iload dX11_harshOf_83 rfl ?_
      refine aX_iload dX11_harshOf_85 rfl ?_
      refine cVp (As := [.int (rQ (jSl s r q.1 rd j)), .int (nI (y + 1))]) (st := [.int (iZ ((jPz (jU r (jSl s r q.1 rd i)) (jD r (jSl s r q.1 rd i))) (y + 1)))]) (v := .int (iZ ((jPz (jU r (jSl s r q.1 rd j)) (jD r (jSl s r q.1 rd j))) (y + 1)))) dX11_harshOf_87 kX11_harshOf_177 s159 aEok0 rfl rfl (Nat.le_of_ble_eq_true rfl) (show aMp _ _ _ (.int (iZ ((jPz (jU r (jSl s r q.1 rd j)) (jD r (jSl s r q.1 rd j))) (y + 1)))) from by rw [← congrFun (jPd_eq _ _) (y + 1)]; exact m_power hR hl (jSl_ok _ _ _ _ _) (by omega)) ?_
      refine zSub (a := (jPz (jU r (jSl s r q.1 rd i)) (jD r (jSl s r q.1 rd i))) (y + 1)) (b := (jPz (jU r (jSl s r q.1 rd j)) (jD r (jSl s r q.1 rd j))) (y + 1)) dX11_harshOf_90 (rfl) (rfl) ?_
      refine aX_istore (lv' := [(0, .ref 159), (1, .int (nI (k))), (2, .int (nI (rd))), (3, .int (iZ (A + hzI (jPz (jU r (jSl s r q.1 rd i)) (jD r (jSl s r q.1 rd i))) (jPz (jU r (jSl s r q.1 rd j)) (jD r (jSl s r q.1 rd j))) (y + 1 - 1)))), (4, .int (nI (i))), (5, .int (nI (j))), (6, .int (rQ (jSl s r q.1 rd i))), (7, .int (rQ (jSl s r q.1 rd j))), (8, .int (nI (y + 1))), (9, .int (iZ (((jPz (jU r (jSl s r q.1 rd i)) (jD r (jSl s r q.1 rd i))) (y + 1)) - ((jPz (jU r (jSl s r q.1 rd j)) (jD r (jSl s r q.1 rd j))) (y + 1)))))]) dX11_harshOf_91 (by decide) rfl ?_
      refine aX_iload_n dX11_harshOf_93 rfl ?_
      refine aX_iload dX11_harshOf_94 rfl ?_
      refine aX_if_ge (tgt := 105) dX11_harshOf_96 (by decide) (fun c2 => ?_) (fun c2 => ?_)
      · have hab : ((jPz (jU r (jSl s r q.1 rd i)) (jD r (jSl s r q.1 rd i))) (y + 1) - (jPz (jU r (jSl s r q.1 rd j)) (jD r (jSl s r q.1 rd j))) (y + 1)) = ((((jPz (jU r (jSl s r q.1 rd i)) (jD r (jSl s r q.1 rd i))) (y + 1) - (jPz (jU r (jSl s r q.1 rd j)) (jD r (jSl s r q.1 rd j))) (y + 1)).natAbs : Nat) : Int) := by
          have z := c2
          rw [show (0 : Int32) = iZ 0 from rfl, iZ_le (by omega) (by omega) (by omega) (by omega)] at z
          omega
        refine aX_iload dX11_harshOf_105 rfl ?_
        refine aX_aload_n dX11_harshOf_107 rfl ?_
        refine aX_get dX11_harshOf_108 lfX11_35 s159 (f159_9 hR) ?_
        refine aX_iload dX11_harshOf_111 rfl ?_
        refine nIald (v := nI (jP (y + 1))) dX11_harshOf_113 s168 (by first | omega | exact Nat.lt_of_le_of_lt (Nat.mod_le _ _) (by omega)) (by decide) ((hl.2.2.2 (y + 1) (by omega)).1) ?_
        refine aX_iconst (v := nI 1) dX11_harshOf_114 (by decide) ?_
        refine nSub dX11_harshOf_115 (by first | omega | exact Nat.lt_of_le_of_lt (Nat.mod_le _ _) (by omega)) ?_
        refine zMul (a := ((jPz (jU r (jSl s r q.1 rd i)) (jD r (jSl s r q.1 rd i))) (y + 1)) - ((jPz (jU r (jSl s r q.1 rd j)) (jD r (jSl s r q.1 rd j))) (y + 1))) (b := (((jP (y + 1)) - 1 : Nat) : Int)) dX11_harshOf_116 (rfl) (nZ _) ?_
        refine zAdd (a := A + hzI (jPz (jU r (jSl s r q.1 rd i)) (jD r (jSl s r q.1 rd i))) (jPz (jU r (jSl s r q.1 rd j)) (jD r (jSl s r q.1 rd j))) (y + 1 - 1)) (b := (((jPz (jU r (jSl s r q.1 rd i)) (jD r (jSl s r q.1 rd i))) (y + 1)) - ((jPz (jU r (jSl s r q.1 rd j)) (jD r (jSl s r q.1 rd j))) (y + 1))) * ((((jP (y + 1)) - 1 : Nat) : Int))) dX11_harshOf_117 (rfl) (rfl) ?_
        refine aX_istore_n (lv' := [(0, .ref 159), (1, .int (nI (k))), (2, .int (nI (rd))), (3, .int (iZ ((A + hzI (jPz (jU r (jSl s r q.1 rd i)) (jD r (jSl s r q.1 rd i))) (jPz (jU r (jSl s r q.1 rd j)) (jD r (jSl s r q.1 rd j))) (y + 1 - 1)) + ((((jPz (jU r (jSl s r q.1 rd i)) (jD r (jSl s r q.1 rd i))) (y + 1)) - ((jPz (jU r (jSl s r q.1 rd j)) (jD r (jSl s r q.1 rd j))) (y + 1))) * ((((jP (y + 1)) - 1 : Nat) : Int)))))), (4, .int (nI (i))), (5, .int (nI (j))), (6, .int (rQ (jSl s r q.1 rd i))), (7, .int (rQ (jSl s r q.1 rd j))), (8, .int (nI (y + 1))), (9, .int (iZ (((jPz (jU r (jSl s r q.1 rd i)) (jD r (jSl s r q.1 rd i))) (y + 1)) - ((jPz (jU r (jSl s r q.1 rd j)) (jD r (jSl s r q.1 rd j))) (y + 1)))))]) dX11_harshOf_118 (by decide) rfl ?_
        refine nInc (lv' := [(0, .ref 159), (1, .int (nI (k))), (2, .int (nI (rd))), (3, .int (iZ ((A + hzI (jPz (jU r (jSl s r q.1 rd i)) (jD r (jSl s r q.1 rd i))) (jPz (jU r (jSl s r q.1 rd j)) (jD r (jSl s r q.1 rd j))) (y + 1 - 1)) + ((((jPz (jU r (jSl s r q.1 rd i)) (jD r (jSl s r q.1 rd i))) (y + 1)) - ((jPz (jU r (jSl s r q.1 rd j)) (jD r (jSl s r q.1 rd j))) (y + 1))) * ((((jP (y + 1)) - 1 : Nat) : Int)))))), (4, .int (nI (i))), (5, .int (nI (j))), (6, .int (rQ (jSl s r q.1 rd i))), (7, .int (rQ (jSl s r q.1 rd j))), (8, .int (nI ((y + 1) + 1))), (9, .int (iZ (((jPz (jU r (jSl s r q.1 rd i)) (jD r (jSl s r q.1 rd i))) (y + 1)) - ((jPz (jU r (jSl s r q.1 rd j)) (jD r (jSl s r q.1 rd j))) (y + 1)))))]) dX11_harshOf_119 rfl rfl (by decide) rfl ?_
        refine aX_goto (tgt := 67) dX11_harshOf_122 (by decide) ?_
        refine aX_lv (lv' := [(0, .ref 159), (1, .int (nI (k))), (2, .int (nI (rd))), (3, .int (iZ ((A + hzI (jPz (jU r (jSl s r q.1 rd i)) (jD r (jSl s r q.1 rd i))) (jPz (jU r (jSl s r q.1 rd j)) (jD r (jSl s r q.1 rd j))) (y + 1 - 1)) + ((((jPz (jU r (jSl s r q.1 rd i)) (jD r (jSl s r q.1 rd i))) (y + 1)) - ((jPz (jU r (jSl s r q.1 rd j)) (jD r (jSl s r q.1 rd j))) (y + 1))) * ((((jP (y + 1)) - 1 : Nat) : Int)))))), (4, .int (nI (i))), (5, .int (nI (j))), (6, .int (rQ (jSl s r q.1 rd i))), (7, .int (rQ (jSl s r q.1 rd j))), (8, .int (nI ((y + 1) + 1)))]) [0, 1, 2, 3, 4, 5, 6, 7, 8] rfl ?_
        refine aX_lv (lv' := [(0, .ref 159), (1, .int (nI k)), (2, .int (nI rd)), (3, .int (iZ (A + hzI (jPz (jU r (jSl s r q.1 rd i)) (jD r (jSl s r q.1 rd i))) (jPz (jU r (jSl s r q.1 rd j)) (jD r (jSl s r q.1 rd j))) (y + 1 + 1 - 1)))), (4, .int (nI i)), (5, .int (nI j)), (6, .int (rQ (jSl s r q.1 rd i))), (7, .int (rQ (jSl s r q.1 rd j))), (8, .int (nI (y + 1 + 1)))]) [0, 1, 2, 3, 4, 5, 6, 7, 8] (by rw [hab]; show _ = [_, _, _, (3, Value.int (iZ (A + (hzI (jPz (jU r (jSl s r q.1 rd i)) (jD r (jSl s r q.1 rd i))) (jPz (jU r (jSl s r q.1 rd j)) (jD r (jSl s r q.1 rd j))) y + _)))), _, _, _, _, _]; rw [← Int.add_assoc]; rfl) ?_
        exact ih (6 - (y + 1 + 1)) (by omega) (y + 1 + 1) (by omega) rfl (by omega)
      · have hab : -((jPz (jU r (jSl s r q.1 rd i)) (jD r (jSl s r q.1 rd i))) (y + 1) - (jPz (jU r (jSl s r q.1 rd j)) (jD r (jSl s r q.1 rd j))) (y + 1)) = ((((jPz (jU r (jSl s r q.1 rd i)) (jD r (jSl s r q.1 rd i))) (y + 1) - (jPz (jU r (jSl s r q.1 rd j)) (jD r (jSl s r q.1 rd j))) (y + 1)).natAbs : Nat) : Int) := by
          have z := c2
          rw [show (0 : Int32) = iZ 0 from rfl, iZ_le (by omega) (by omega) (by omega) (by omega)] at z
          omega
        refine aX_iload dX11_harshOf_99 rfl ?_
        refine zNeg dX11_harshOf_101 (rfl) ?_
        refine aX_goto (tgt := 107) dX11_harshOf_102 (by decide) ?_
        refine aX_aload_n dX11_harshOf_107 rfl ?_
        refine aX_get dX11_harshOf_108 lfX11_35 s159 (f159_9 hR) ?_
        refine aX_iload dX11_harshOf_111 rfl ?_
        refine nIald (v := nI (jP (y + 1))) dX11_harshOf_113 s168 (by first | omega | exact Nat.lt_of_le_of_lt (Nat.mod_le _ _) (by omega)) (by decide) ((hl.2.2.2 (y + 1) (by omega)).1) ?_
        refine aX_iconst (v := nI 1) dX11_harshOf_114 (by decide) ?_
        refine nSub dX11_harshOf_115 (by first | omega | exact Nat.lt_of_le_of_lt (Nat.mod_le _ _) (by omega)) ?_
        refine zMul (a := -(((jPz (jU r (jSl s r q.1 rd i)) (jD r (jSl s r q.1 rd i))) (y + 1)) - ((jPz (jU r (jSl s r q.1 rd j)) (jD r (jSl s r q.1 rd j))) (y + 1)))) (b := (((jP (y + 1)) - 1 : Nat) : Int)) dX11_harshOf_116 (rfl) (nZ _) ?_
        refine zAdd (a := A + hzI (jPz (jU r (jSl s r q.1 rd i)) (jD r (jSl s r q.1 rd i))) (jPz (jU r (jSl s r q.1 rd j)) (jD r (jSl s r q.1 rd j))) (y + 1 - 1)) (b := (-(((jPz (jU r (jSl s r q.1 rd i)) (jD r (jSl s r q.1 rd i))) (y + 1)) - ((jPz (jU r (jSl s r q.1 rd j)) (jD r (jSl s r q.1 rd j))) (y + 1)))) * ((((jP (y + 1)) - 1 : Nat) : Int))) dX11_harshOf_117 (rfl) (rfl) ?_
        refine aX_istore_n (lv' := [(0, .ref 159), (1, .int (nI (k))), (2, .int (nI (rd))), (3, .int (iZ ((A + hzI (jPz (jU r (jSl s r q.1 rd i)) (jD r (jSl s r q.1 rd i))) (jPz (jU r (jSl s r q.1 rd j)) (jD r (jSl s r q.1 rd j))) (y + 1 - 1)) + ((-(((jPz (jU r (jSl s r q.1 rd i)) (jD r (jSl s r q.1 rd i))) (y + 1)) - ((jPz (jU r (jSl s r q.1 rd j)) (jD r (jSl s r q.1 rd j))) (y + 1)))) * ((((jP (y + 1)) - 1 : Nat) : Int)))))), (4, .int (nI (i))), (5, .int (nI (j))), (6, .int (rQ (jSl s r q.1 rd i))), (7, .int (rQ (jSl s r q.1 rd j))), (8, .int (nI (y + 1))), (9, .int (iZ (((jPz (jU r (jSl s r q.1 rd i)) (jD r (jSl s r q.1 rd i))) (y + 1)) - ((jPz (jU r (jSl s r q.1 rd j)) (jD r (jSl s r q.1 rd j))) (y + 1)))))]) dX11_harshOf_118 (by decide) rfl ?_
        refine nInc (lv' := [(0, .ref 159), (1, .int (nI (k))), (2, .int (nI (rd))), (3, .int (iZ ((A + hzI (jPz (jU r (jSl s r q.1 rd i)) (jD r (jSl s r q.1 rd i))) (jPz (jU r (jSl s r q.1 rd j)) (jD r (jSl s r q.1 rd j))) (y + 1 - 1)) + ((-(((jPz (jU r (jSl s r q.1 rd i)) (jD r (jSl s r q.1 rd i))) (y + 1)) - ((jPz (jU r (jSl s r q.1 rd j)) (jD r (jSl s r q.1 rd j))) (y + 1)))) * ((((jP (y + 1)) - 1 : Nat) : Int)))))), (4, .int (nI (i))), (5, .int (nI (j))), (6, .int (rQ (jSl s r q.1 rd i))), (7, .int (rQ (jSl s r q.1 rd j))), (8, .int (nI ((y + 1) + 1))), (9, .int (iZ (((jPz (jU r (jSl s r q.1 rd i)) (jD r (jSl s r q.1 rd i))) (y + 1)) - ((jPz (jU r (jSl s r q.1 rd j)) (jD r (jSl s r q.1 rd j))) (y + 1)))))]) dX11_harshOf_119 rfl rfl (by decide) rfl ?_
        refine aX_goto (tgt := 67) dX11_harshOf_122 (by decide) ?_
        refine aX_lv (lv' := [(0, .ref 159), (1, .int (nI (k))), (2, .int (nI (rd))), (3, .int (iZ ((A + hzI (jPz (jU r (jSl s r q.1 rd i)) (jD r (jSl s r q.1 rd i))) (jPz (jU r (jSl s r q.1 rd j)) (jD r (jSl s r q.1 rd j))) (y + 1 - 1)) + ((-(((jPz (jU r (jSl s r q.1 rd i)) (jD r (jSl s r q.1 rd i))) (y + 1)) - ((jPz (jU r (jSl s r q.1 rd j)) (jD r (jSl s r q.1 rd j))) (y + 1)))) * ((((jP (y + 1)) - 1 : Nat) : Int)))))), (4, .int (nI (i))), (5, .int (nI (j))), (6, .int (rQ (jSl s r q.1 rd i))), (7, .int (rQ (jSl s r q.1 rd j))), (8, .int (nI ((y + 1) + 1)))]) [0, 1, 2, 3, 4, 5, 6, 7, 8] rfl ?_
        refine aX_lv (lv' := [(0, .ref 159), (1, .int (nI k)), (2, .int (nI rd)), (3, .int (iZ (A + hzI (jPz (jU r (jSl s r q.1 rd i)) (jD r (jSl s r q.1 rd i))) (jPz (jU r (jSl s r q.1 rd j)) (jD r (jSl s r q.1 rd j))) (y + 1 + 1 - 1)))), (4, .int (nI i)), (5, .int (nI j)), (6, .int (rQ (jSl s r q.1 rd i))), (7, .int (rQ (jSl s r q.1 rd j))), (8, .int (nI (y + 1 + 1)))]) [0, 1, 2, 3, 4, 5, 6, 7, 8] (by rw [hab]; show _ = [_, _, _, (3, Value.int (iZ (A + (hzI (jPz (jU r (jSl s r q.1 rd i)) (jD r (jSl s r q.1 rd i))) (jPz (jU r (jSl s r q.1 rd j)) (jD r (jSl s r q.1 rd j))) y + _)))), _, _, _, _, _]; rw [← Int.add_assoc]; rfl) ?_
        exact ih (6 - (y + 1 + 1)) (by omega) (y + 1 + 1) (by omega) rfl (by omega)
set_option maxHeartbeats 1000000 in
theorem ml_harsh2 {I : Nat → Nat → Int32} {L : Nat → Nat → Int64} {R : Nat → Nat → Option Nat} (hR : aRf R) {s : jN} (hs : mnRep I s) (ho : jOk s) (hS : msRep I s (jS s)) {r : jR} (hl : mlRep I r) {k : Nat} {q : Nat × Nat} (hq : (jS s)[k]? = some q) (hp : jPos s r q.1) {rd : Nat} (hrd : rd < 2 ^ 31) {i : Nat} (hi2 : i < s.1) {Q : Option Value → aH → Prop} (kk : aX mX11_harshOf aE0 (sh0, I, L, R) 131 [(0, .ref 159), (1, .int (nI k)), (2, .int (nI rd)), (3, .int (iZ (hsZ (jHvz r (jSl s r q.1 rd)) (jML s q.1 (i + 1)) 0))), (4, .int (nI i)), (5, .int (nI i))] [] 0 0 Q) : ∀ (k9 j : Nat), j ≤ i → i - j = k9 → aX mX11_harshOf aE0 (sh0, I, L, R) 17 [(0, .ref 159), (1, .int (nI (k))), (2, .int (nI (rd))), (3, .int (iZ (hsZ (jHvz r (jSl s r q.1 rd)) (jML s q.1 i) 0 + (if jOn s i q.1 then ls (fun m => jHvz r (jSl s r q.1 rd) m i) (jML s q.1 j) else 0)))), (4, .int (nI (i))), (5, .int (nI (j)))] [] 0 0 Q := by
  intro k9
  induction k9 using Nat.strongRecOn with
  | _ k9 ih =>
    intro j hi hk9  
    have hn := ho.1
    have hSl := jS_len s
    have hkl : k < (jS s).length := (List.getElem?_eq_some_iff.mp hq).1
    have hsi := jS_in hq
    have hbb := (jBase_in hsi.2.2).2.1
    refine aX_iload dX11_harshOf_17 rfl ?_
    refine aX_iload dX11_harshOf_19 rfl ?_
    refine nGe (tgt := 131) dX11_harshOf_21 (by decide) (by first | omega | exact Nat.lt_of_le_of_lt (Nat.mod_le _ _) (by omega)) (by first | omega | exact Nat.lt_of_le_of_lt (Nat.mod_le _ _) (by omega)) (fun c1 => ?_) (fun c1 => ?_)
    · obtain rfl : j = i := by omega
      have e : hsZ (jHvz r (jSl s r q.1 rd)) (jML s q.1 (j + 1)) 0 = hsZ (jHvz r (jSl s r q.1 rd)) (jML s q.1 j) 0 + (if jOn s j q.1 then ls (fun m => jHvz r (jSl s r q.1 rd) m j) (jML s q.1 j) else 0) := by
        by_cases g : jOn s j q.1 = true
        · rw [jML_t g, hsZ_snoc, if_pos g]
        · rw [jML_f (by simpa using g), if_neg g, Int.add_zero]
      rw [e] at kk
      exact kk
    · refine aX_aload_n dX11_harshOf_24 rfl ?_
      refine aX_iload_n dX11_harshOf_25 rfl ?_
      refine aX_iload dX11_harshOf_26 rfl ?_
      refine cVp (As := [.int (nI (k)), .int (nI (i))]) (st := []) (v := .int (bI (jOn s i q.1))) dX11_harshOf_28 kX11_harshOf_163 s159 aEok0 rfl rfl (Nat.le_of_ble_eq_true rfl) (m_sounds0 hR hs ho hS hSl hq (by omega)) ?_
      refine bEq (tgt := 125) dX11_harshOf_31 (by decide) (fun c2 => ?_) (fun c2 => ?_)
      · have hoi : jOn s i q.1 = false := c2
        refine nInc (lv' := [(0, .ref 159), (1, .int (nI (k))), (2, .int (nI (rd))), (3, .int (iZ (hsZ (jHvz r (jSl s r q.1 rd)) (jML s q.1 i) 0 + (if jOn s i q.1 then ls (fun m => jHvz r (jSl s r q.1 rd) m i) (jML s q.1 j) else 0)))), (4, .int (nI (i))), (5, .int (nI (j + 1)))]) dX11_harshOf_125 rfl rfl (by decide) rfl ?_
        refine aX_goto (tgt := 17) dX11_harshOf_128 (by decide) ?_
        refine aX_lv (lv' := [(0, .ref 159), (1, .int (nI k)), (2, .int (nI rd)), (3, .int (iZ (hsZ (jHvz r (jSl s r q.1 rd)) (jML s q.1 i) 0 + (if jOn s i q.1 then ls (fun m => jHvz r (jSl s r q.1 rd) m i) (jML s q.1 (j + 1)) else 0)))), (4, .int (nI i)), (5, .int (nI (j + 1)))]) [0, 1, 2, 3, 4, 5] (by rw [if_neg (by rw [hoi]; decide), if_neg (by rw [hoi]; decide)]; rfl) ?_
        exact ih (i - (j + 1)) (by omega) (j + 1) (by omega) rfl
      · have hoi : jOn s i q.1 = true := c2
        refine aX_aload_n dX11_harshOf_34 rfl ?_
        refine aX_iload_n dX11_harshOf_35 rfl ?_
        refine aX_iload dX11_harshOf_36 rfl ?_
        refine cVp (As := [.int (nI (k)), .int (nI (j))]) (st := []) (v := .int (bI (jOn s j q.1))) dX11_harshOf_38 kX11_harshOf_163 s159 aEok0 rfl rfl (Nat.le_of_ble_eq_true rfl) (m_sounds0 hR hs ho hS hSl hq (by omega)) ?_
        refine bEq (tgt := 125) dX11_harshOf_41 (by decide) (fun c3 => ?_) (fun c3 => ?_)
        · have hoj : jOn s j q.1 = false := c3
          refine nInc (lv' := [(0, .ref 159), (1, .int (nI (k))), (2, .int (nI (rd))), (3, .int (iZ (hsZ (jHvz r (jSl s r q.1 rd)) (jML s q.1 i) 0 + (if jOn s i q.1 then ls (fun m => jHvz r (jSl s r q.1 rd) m i) (jML s q.1 j) else 0)))), (4, .int (nI (i))), (5, .int (nI (j + 1)))]) dX11_harshOf_125 rfl rfl (by decide) rfl ?_
          refine aX_goto (tgt := 17) dX11_harshOf_128 (by decide) ?_
          refine aX_lv (lv' := [(0, .ref 159), (1, .int (nI k)), (2, .int (nI rd)), (3, .int (iZ (hsZ (jHvz r (jSl s r q.1 rd)) (jML s q.1 i) 0 + (if jOn s i q.1 then ls (fun m => jHvz r (jSl s r q.1 rd) m i) (jML s q.1 (j + 1)) else 0)))), (4, .int (nI i)), (5, .int (nI (j + 1)))]) [0, 1, 2, 3, 4, 5] (by rw [jML_f hoj]; rfl) ?_
          exact ih (i - (j + 1)) (by omega) (j + 1) (by omega) rfl
        · have hoj : jOn s j q.1 = true := c3
          refine aX_aload_n dX11_harshOf_44 rfl ?_
          refine aX_iload_n dX11_harshOf_45 rfl ?_
          refine aX_iload_n dX11_harshOf_46 rfl ?_
          refine aX_iload dX11_harshOf_47 rfl ?_
          refine cVp (As := [.int (nI (k)), .int (nI (rd)), .int (nI (i))]) (st := []) (v := .int (rQ (jSl s r q.1 rd i))) dX11_harshOf_49 kX11_harshOf_170 s159 aEok0 rfl rfl (Nat.le_of_ble_eq_true rfl) (m_ratioOf hR hs ho hS hl hq hp hrd (m := i) (by omega) hoi) ?_
          refine aX_istore (lv' := [(0, .ref 159), (1, .int (nI (k))), (2, .int (nI (rd))), (3, .int (iZ (hsZ (jHvz r (jSl s r q.1 rd)) (jML s q.1 i) 0 + (if jOn s i q.1 then ls (fun m => jHvz r (jSl s r q.1 rd) m i) (jML s q.1 j) else 0)))), (4, .int (nI (i))), (5, .int (nI (j))), (6, .int (rQ (jSl s r q.1 rd i)))]) dX11_harshOf_52 (by decide) rfl ?_
          refine aX_aload_n dX11_harshOf_54 rfl ?_
          refine aX_iload_n dX11_harshOf_55 rfl ?_
          refine aX_iload_n dX11_harshOf_56 rfl ?_
          refine aX_iload dX11_harshOf_57 rfl ?_
          refine cVp (As := [.int (nI (k)), .int (nI (rd)), .int (nI (j))]) (st := []) (v := .int (rQ (jSl s r q.1 rd j))) dX11_harshOf_59 kX11_harshOf_170 s159 aEok0 rfl rfl (Nat.le_of_ble_eq_true rfl) (m_ratioOf hR hs ho hS hl hq hp hrd (m := j) (by omega) hoj) ?_
          refine aX_istore (lv' := [(0, .ref 159), (1, .int (nI (k))), (2, .int (nI (rd))), (3, .int (iZ (hsZ (jHvz r (jSl s r q.1 rd)) (jML s q.1 i) 0 + (if jOn s i q.1 then ls (fun m => jHvz r (jSl s r q.1 rd) m i) (jML s q.1 j) else 0)))), (4, .int (nI (i))), (5, .int (nI (j))), (6, .int (rQ (jSl s r q.1 rd i))), (7, .int (rQ (jSl s r q.1 rd j)))]) dX11_harshOf_62 (by decide) rfl ?_
          refine aX_iconst (v := nI 1) dX11_harshOf_64 (by decide) ?_
          refine aX_istore (lv' := [(0, .ref 159), (1, .int (nI (k))), (2, .int (nI (rd))), (3, .int (iZ (hsZ (jHvz r (jSl s r q.1 rd)) (jML s q.1 i) 0 + (if jOn s i q.1 then ls (fun m => jHvz r (jSl s r q.1 rd) m i) (jML s q.1 j) else 0)))), (4, .int (nI (i))), (5, .int (nI (j))), (6, .int (rQ (jSl s r q.1 rd i))), (7, .int (rQ (jSl s r q.1 rd j))), (8, .int (nI (1)))]) dX11_harshOf_65 (by decide) rfl ?_
          refine aX_lv (lv' := [(0, .ref 159), (1, .int (nI k)), (2, .int (nI rd)), (3, .int (iZ (hsZ (jHvz r (jSl s r q.1 rd)) (jML s q.1 i) 0 + (if jOn s i q.1 then ls (fun m => jHvz r (jSl s r q.1 rd) m i) (jML s q.1 j) else 0) + hzI (jPz (jU r (jSl s r q.1 rd i)) (jD r (jSl s r q.1 rd i))) (jPz (jU r (jSl s r q.1 rd j)) (jD r (jSl s r q.1 rd j))) (1 - 1)))), (4, .int (nI i)), (5, .int (nI j)), (6, .int (rQ (jSl s r q.1 rd i))), (7, .int (rQ (jSl s r q.1 rd j))), (8, .int (nI 1))]) [0, 1, 2, 3, 4, 5, 6, 7, 8] (by show _ = [_, _, _, (3, Value.int (iZ (hsZ (jHvz r (jSl s r q.1 rd)) (jML s q.1 i) 0 + (if jOn s i q.1 then ls (fun m => jHvz r (jSl s r q.1 rd) m i) (jML s q.1 j) else 0) + 0))), _, _, _, _, _]; rw [Int.add_zero]; rfl) ?_
          refine ml_harsh3 hR hs ho hS hl hq hp hrd (i := i) (j := j) ?_ _ 1 (by omega) rfl (by omega)
          refine nInc (lv' := [(0, .ref 159), (1, .int (nI (k))), (2, .int (nI (rd))), (3, .int (iZ ((hsZ (jHvz r (jSl s r q.1 rd)) (jML s q.1 i) 0 + (if jOn s i q.1 then ls (fun m => jHvz r (jSl s r q.1 rd) m i) (jML s q.1 j) else 0)) + jHvz r (jSl s r q.1 rd) j i))), (4, .int (nI (i))), (5, .int (nI (j + 1)))]) dX11_harshOf_125 rfl rfl (by decide) rfl ?_
          refine aX_goto (tgt := 17) dX11_harshOf_128 (by decide) ?_
          refine aX_lv (lv' := [(0, .ref 159), (1, .int (nI k)), (2, .int (nI rd)), (3, .int (iZ (hsZ (jHvz r (jSl s r q.1 rd)) (jML s q.1 i) 0 + (if jOn s i q.1 then ls (fun m => jHvz r (jSl s r q.1 rd) m i) (jML s q.1 (j + 1)) else 0)))), (4, .int (nI i)), (5, .int (nI (j + 1)))]) [0, 1, 2, 3, 4, 5] (by rw [if_pos hoi, if_pos hoi, jML_t hoj, ls_app, show ls (fun m => jHvz r (jSl s r q.1 rd) m i) [j] = jHvz r (jSl s r q.1 rd) j i + 0 from rfl, Int.add_zero, Int.add_assoc]; rfl) ?_
          exact ih (i - (j + 1)) (by omega) (j + 1) (by omega) rfl
set_option maxHeartbeats 1000000 in
theorem ml_harsh1 {I : Nat → Nat → Int32} {L : Nat → Nat → Int64} {R : Nat → Nat → Option Nat} (hR : aRf R) {s : jN} (hs : mnRep I s) (ho : jOk s) (hS : msRep I s (jS s)) {r : jR} (hl : mlRep I r) {k : Nat} {q : Nat × Nat} (hq : (jS s)[k]? = some q) (hp : jPos s r q.1) {rd : Nat} (hrd : rd < 2 ^ 31) : ∀ (k9 i : Nat), i ≤ s.1 → s.1 - i = k9 → aX mX11_harshOf aE0 (sh0, I, L, R) 5 [(0, .ref 159), (1, .int (nI (k))), (2, .int (nI (rd))), (3, .int (iZ (hsZ (jHvz r (jSl s r q.1 rd)) (jML s q.1 i) 0))), (4, .int (nI (i)))] [] 0 0 (fun ans h' => h' = (sh0, I, L, R) ∧ ans = some (.int (jHarsh s r q.1 rd))) := by
  intro k9
  induction k9 using Nat.strongRecOn with
  | _ k9 ih =>
    intro i hi hk9  
    have hn := ho.1
    have hSl := jS_len s
    have hkl : k < (jS s).length := (List.getElem?_eq_some_iff.mp hq).1
    have hsi := jS_in hq
    have hbb := (jBase_in hsi.2.2).2.1
    refine aX_iload dX11_harshOf_5 rfl ?_
    refine aX_aload_n dX11_harshOf_7 rfl ?_
    refine aX_get (v := .int (nI (s.1))) dX11_harshOf_8 lfX11_150 s159 (congrArg Value.int (hs.1)) ?_
    refine nGe (tgt := 137) dX11_harshOf_11 (by decide) (by first | omega | exact Nat.lt_of_le_of_lt (Nat.mod_le _ _) (by omega)) (by first | omega | exact Nat.lt_of_le_of_lt (Nat.mod_le _ _) (by omega)) (fun c1 => ?_) (fun c1 => ?_)
    · refine aX_iload_n dX11_harshOf_137 rfl ?_
      exact rI dX11_harshOf_138 rfl (⟨rfl, by rw [jHarsh_eq, show i = s.1 by omega]; rfl⟩)
    · refine aX_iconst (v := nI 0) dX11_harshOf_14 (by decide) ?_
      refine aX_istore (lv' := [(0, .ref 159), (1, .int (nI (k))), (2, .int (nI (rd))), (3, .int (iZ (hsZ (jHvz r (jSl s r q.1 rd)) (jML s q.1 i) 0))), (4, .int (nI (i))), (5, .int (nI (0)))]) dX11_harshOf_15 (by decide) rfl ?_
      refine aX_lv (lv' := [(0, .ref 159), (1, .int (nI k)), (2, .int (nI rd)), (3, .int (iZ (hsZ (jHvz r (jSl s r q.1 rd)) (jML s q.1 i) 0 + (if jOn s i q.1 then ls (fun m => jHvz r (jSl s r q.1 rd) m i) (jML s q.1 0) else 0)))), (4, .int (nI i)), (5, .int (nI 0))]) [0, 1, 2, 3, 4, 5] (by show _ = [_, _, _, (3, Value.int (iZ (hsZ (jHvz r (jSl s r q.1 rd)) (jML s q.1 i) 0 + (if jOn s i q.1 then 0 else 0)))), _, _]; rw [ite_self, Int.add_zero]; rfl) ?_
      refine ml_harsh2 hR hs ho hS hl hq hp hrd (i := i) (by omega) ?_ _ 0 (by omega) rfl
      refine nInc (lv' := [(0, .ref 159), (1, .int (nI (k))), (2, .int (nI (rd))), (3, .int (iZ (hsZ (jHvz r (jSl s r q.1 rd)) (jML s q.1 (i + 1)) 0))), (4, .int (nI (i + 1))), (5, .int (nI (i)))]) dX11_harshOf_131 rfl rfl (by decide) rfl ?_
      refine aX_goto (tgt := 5) dX11_harshOf_134 (by decide) ?_
      refine aX_lv (lv' := [(0, .ref 159), (1, .int (nI (k))), (2, .int (nI (rd))), (3, .int (iZ (hsZ (jHvz r (jSl s r q.1 rd)) (jML s q.1 (i + 1)) 0))), (4, .int (nI (i + 1)))]) [0, 1, 2, 3, 4] rfl ?_
      exact ih (s.1 - (i + 1)) (by omega) (i + 1) (by omega) rfl
set_option maxHeartbeats 1000000 in
theorem m_harshOf {I : Nat → Nat → Int32} {L : Nat → Nat → Int64} {R : Nat → Nat → Option Nat} (hR : aRf R) {s : jN} (hs : mnRep I s) (ho : jOk s) (hS : msRep I s (jS s)) {r : jR} (hl : mlRep I r) {k : Nat} {q : Nat × Nat} (hq : (jS s)[k]? = some q) (hp : jPos s r q.1) {rd : Nat} (hrd : rd < 2 ^ 31) : aM mX11_harshOf [.ref 159, .int (nI k), .int (nI rd)] (sh0, I, L, R) (fun ans h' => h' = (sh0, I, L, R) ∧ ans = some (.int (jHarsh s r q.1 rd))) := by
  refine aM_of plX11_harshOf (Nat.le_of_ble_eq_true rfl) ?_
  refine aX_iconst (v := nI 0) dX11_harshOf_0 (by decide) ?_
  refine aX_istore_n (lv' := [(0, .ref 159), (1, .int (nI (k))), (2, .int (nI (rd))), (3, .int (nI (0)))]) dX11_harshOf_1 (by decide) rfl ?_
  refine aX_iconst (v := nI 0) dX11_harshOf_2 (by decide) ?_
  refine aX_istore (lv' := [(0, .ref 159), (1, .int (nI (k))), (2, .int (nI (rd))), (3, .int (nI (0))), (4, .int (nI (0)))]) dX11_harshOf_3 (by decide) rfl ?_
  refine aX_lv (lv' := [(0, .ref 159), (1, .int (nI k)), (2, .int (nI rd)), (3, .int (iZ (hsZ (jHvz r (jSl s r q.1 rd)) (jML s q.1 0) 0))), (4, .int (nI 0))]) [0, 1, 2, 3, 4] rfl ?_
  exact ml_harsh1 hR hs ho hS hl hq hp hrd _ 0 (by omega) rfl
theorem hasRd_eq {s : jN} {r : jR} {k : Nat} (hk : k < (jS s).length) {y : Int32} (h729 : jCo s r (jB s k) < 2 ^ 30) : (decide (nI 0 ≤ y) && decide (y ≤ nI (jCo s r (jB s k)) - nI 1)) = jHasRd s r (nI k) y := by
  have hSl := jS_len s
  rw [isIn_jIx h729]
  unfold jHasRd
  rw [jIx_nI (by omega) (by omega), decide_eq_true hk, Bool.true_and]
  simp only [nI_clamp (show k < 2 ^ 31 by omega)]
  rfl
set_option maxHeartbeats 1000000 in
theorem m10_harsh {I : Nat → Nat → Int32} {L : Nat → Nat → Int64} {R : Nat → Nat → Option Nat} (hR : aRf R) {z : jZ} (hz : mmRep I L z) {x y : Int32} : aM mX11_harsh [.ref 159, .int x, .int y] (sh0, I, L, R) (fun ans h' => ans = some (.int (oHarsh z x y)) ∧ ∃ I' L', h' = (sh0, I', L', R) ∧ mmRep I' L' z ∧ mmK I I' ∧ mmKL L L') := by
  obtain ⟨hs, ho, h6, hl, hg, hw, hS, hcn, h12, h13, hpc, hcz, hpz, hpr, htx⟩ := id hz
  have hn := ho.1
  have hSl := jS_len z.1
  have h729 : ∀ b, jCo z.1 z.2.1 b < 2 ^ 30 := fun b => by have := jCo_729 (s := z.1) (b := b) h6 hl.1; omega
  refine aM_of plX11_harsh (Nat.le_of_ble_eq_true rfl) ?_
  refine aX_aload_n dX11_harsh_0 rfl ?_
  refine aX_iload_n dX11_harsh_1 rfl ?_
  refine cVp (As := [.int (x)]) (st := []) (v := .int (bI (jIx x (jS z.1).length))) dX11_harsh_2 kX11_harsh_184 s159 aEok0 rfl rfl (Nat.le_of_ble_eq_true rfl) (m_isSet hR hs ho hS hSl) ?_
  refine bEq (tgt := 34) dX11_harsh_5 (by decide) (fun c1 => ?_) (fun c1 => ?_)
  · refine aX_iconst (v := (-1)) dX11_harsh_34 (by decide) ?_
    exact rI dX11_harsh_35 rfl (⟨by rw [show oHarsh z x y = -1 by unfold oHarsh jHasRd; rw [if_neg (by rw [c1]; simp)]], I, L, rfl, hz, fun _ _ _ => rfl, fun _ _ _ => rfl⟩)
  · obtain ⟨k, hk, rfl⟩ := jIx_t (by omega) c1
    obtain ⟨q, hq, hqb⟩ := jQ hk
    have hr7 := h729 (jB z.1 k)
    refine aX_aload_n dX11_harsh_8 rfl ?_
    refine aX_iload_n dX11_harsh_9 rfl ?_
    refine aX_iconst (v := nI 0) dX11_harsh_10 (by decide) ?_
    refine aX_aload_n dX11_harsh_11 rfl ?_
    refine aX_get dX11_harsh_12 lfX11_66 s159 (f159_20 hR) ?_
    refine aX_iload_n dX11_harsh_15 rfl ?_
    refine nIald (v := nI (jCo z.1 z.2.1 (jB z.1 k))) dX11_harsh_16 s176 (by first | omega | exact Nat.lt_of_le_of_lt (Nat.mod_le _ _) (by omega)) (by decide) (by rw [← hqb]; exact hcn.2.2 k q hq) ?_
    refine aX_iconst (v := nI 1) dX11_harsh_17 (by decide) ?_
    refine aX_isub dX11_harsh_18 ?_
    refine cVp (As := [.int (y), .int (nI (0)), .int ((nI (jCo z.1 z.2.1 (jB z.1 k))) - (nI (1)))]) (st := []) (v := .int (bI (decide (nI (0) ≤ y) && decide (y ≤ (nI (jCo z.1 z.2.1 (jB z.1 k))) - (nI (1)))))) dX11_harsh_19 kX11_harsh_180 s159 aEok0 rfl rfl (Nat.le_of_ble_eq_true rfl) (m_isIn) ?_
    refine bEq (tgt := 34) dX11_harsh_22 (by decide) (fun c2 => ?_) (fun c2 => ?_)
    · have hrdb : jHasRd z.1 z.2.1 (nI k) y = false := by rw [← hasRd_eq hk hr7]; exact c2
      refine aX_iconst (v := (-1)) dX11_harsh_34 (by decide) ?_
      exact rI dX11_harsh_35 rfl (⟨by rw [show oHarsh z (nI k) y = -1 by unfold oHarsh; rw [if_neg (by rw [hrdb]; simp)]], I, L, rfl, hz, fun _ _ _ => rfl, fun _ _ _ => rfl⟩)
    · have hrdb : jHasRd z.1 z.2.1 (nI k) y = true := by rw [← hasRd_eq hk hr7]; exact c2
      obtain ⟨k2, rd, hk2, e, rfl, hrd⟩ := jHasRd_t (fun b => by have := h729 b; omega) hrdb
      obtain rfl : k = k2 := nI_inj (by omega) (by omega) e
      have hp : jPos z.1 z.2.1 q.1 := jCo_pos (by rw [hqb]; omega)
      refine aX_aload_n dX11_harsh_25 rfl ?_
      refine aX_iload_n dX11_harsh_26 rfl ?_
      refine aX_iload_n dX11_harsh_27 rfl ?_
      refine cVp (As := [.int (nI (k)), .int (nI (rd))]) (st := []) (v := .int (jHarsh z.1 z.2.1 q.1 rd)) dX11_harsh_28 kX11_harsh_198 s159 aEok0 rfl rfl (Nat.le_of_ble_eq_true rfl) (m_harshOf hR hs ho hS hl hq hp (by omega)) ?_
      refine aX_goto (tgt := 35) dX11_harsh_31 (by decide) ?_
      exact rI dX11_harsh_35 rfl (⟨by rw [show oHarsh z (nI k) (nI rd) = jHarsh z.1 z.2.1 q.1 rd by unfold oHarsh; rw [if_pos hrdb]; simp only [nI_clamp (show k < 2 ^ 31 by omega), nI_clamp (show rd < 2 ^ 31 by omega)]; rw [← hqb]], I, L, rfl, hz, fun _ _ _ => rfl, fun _ _ _ => rfl⟩)
set_option maxHeartbeats 1000000 in
theorem m10_reading {I : Nat → Nat → Int32} {L : Nat → Nat → Int64} {R : Nat → Nat → Option Nat} (hR : aRf R) {z : jZ} (hz : mmRep I L z) {x rd0 y v0 : Int32} : aM mX11_reading [.ref 159, .int x, .int rd0, .int y, .int v0] (sh0, I, L, R) (fun ans h' => ans = some (.int (oReading z x rd0 y v0)) ∧ ∃ I' L', h' = (sh0, I', L', R) ∧ mmRep I' L' z ∧ mmK I I' ∧ mmKL L L') := by
  obtain ⟨hs, ho, h6, hl, hg, hw, hS, hcn, h12, h13, hpc, hcz, hpz, hpr, htx⟩ := id hz
  have hn := ho.1
  have hSl := jS_len z.1
  have h729 : ∀ b, jCo z.1 z.2.1 b < 2 ^ 30 := fun b => by have := jCo_729 (s := z.1) (b := b) h6 hl.1; omega
  refine aM_of plX11_reading (Nat.le_of_ble_eq_true rfl) ?_
  refine aX_aload_n dX11_reading_0 rfl ?_
  refine aX_iload_n dX11_reading_1 rfl ?_
  refine aX_iload_n dX11_reading_2 rfl ?_
  refine cVp (As := [.int (x), .int (y)]) (st := []) (v := .int (bI (jPart z.1 x y))) dX11_reading_3 kX11_reading_192 s159 aEok0 rfl rfl (Nat.le_of_ble_eq_true rfl) (m_isSounding hR hz) ?_
  refine bEq (tgt := 37) dX11_reading_6 (by decide) (fun c1 => ?_) (fun c1 => ?_)
  · refine aX_iconst (v := (-1)) dX11_reading_37 (by decide) ?_
    exact rI dX11_reading_38 rfl (⟨by rw [show oReading z x rd0 y v0 = -1 by unfold oReading; rw [if_neg (by rw [c1]; simp)]], I, L, rfl, hz, fun _ _ _ => rfl, fun _ _ _ => rfl⟩)
  · obtain ⟨k, m, hk, hm, rfl, rfl, hon⟩ := jPart_t2 hn c1
    obtain ⟨q, hq, hqb⟩ := jQ hk
    have hr7 := h729 (jB z.1 k)
    have honq : jOn z.1 m q.1 = true := by rw [hqb]; exact hon
    refine aX_aload_n dX11_reading_9 rfl ?_
    refine aX_iload_n dX11_reading_10 rfl ?_
    refine aX_iconst (v := nI 0) dX11_reading_11 (by decide) ?_
    refine aX_aload_n dX11_reading_12 rfl ?_
    refine aX_get dX11_reading_13 lfX11_66 s159 (f159_20 hR) ?_
    refine aX_iload_n dX11_reading_16 rfl ?_
    refine nIald (v := nI (jCo z.1 z.2.1 (jB z.1 k))) dX11_reading_17 s176 (by first | omega | exact Nat.lt_of_le_of_lt (Nat.mod_le _ _) (by omega)) (by decide) (by rw [← hqb]; exact hcn.2.2 k q hq) ?_
    refine aX_iconst (v := nI 1) dX11_reading_18 (by decide) ?_
    refine aX_isub dX11_reading_19 ?_
    refine cVp (As := [.int (rd0), .int (nI (0)), .int ((nI (jCo z.1 z.2.1 (jB z.1 k))) - (nI (1)))]) (st := []) (v := .int (bI (decide (nI (0) ≤ rd0) && decide (rd0 ≤ (nI (jCo z.1 z.2.1 (jB z.1 k))) - (nI (1)))))) dX11_reading_20 kX11_reading_180 s159 aEok0 rfl rfl (Nat.le_of_ble_eq_true rfl) (m_isIn) ?_
    refine bEq (tgt := 37) dX11_reading_23 (by decide) (fun c2 => ?_) (fun c2 => ?_)
    · have hrdb : jHasRd z.1 z.2.1 (nI k) rd0 = false := by rw [← hasRd_eq hk hr7]; exact c2
      refine aX_iconst (v := (-1)) dX11_reading_37 (by decide) ?_
      exact rI dX11_reading_38 rfl (⟨by rw [show oReading z (nI k) rd0 (nI m) v0 = -1 by unfold oReading; rw [if_neg (by rw [hrdb]; simp)]], I, L, rfl, hz, fun _ _ _ => rfl, fun _ _ _ => rfl⟩)
    · have hrdb : jHasRd z.1 z.2.1 (nI k) rd0 = true := by rw [← hasRd_eq hk hr7]; exact c2
      obtain ⟨k2, rd, hk2, e, rfl, hrd⟩ := jHasRd_t (fun b => by have := h729 b; omega) hrdb
      obtain rfl : k = k2 := nI_inj (by omega) (by omega) e
      have hp : jPos z.1 z.2.1 q.1 := jCo_pos (by rw [hqb]; omega)
      refine aX_aload_n dX11_reading_26 rfl ?_
      refine aX_iload dX11_reading_27 rfl ?_
      refine aX_iconst (v := nI 0) dX11_reading_29 (by decide) ?_
      refine aX_iconst (v := nI 2) dX11_reading_30 (by decide) ?_
      refine cVp (As := [.int (v0), .int (nI (0)), .int (nI (2))]) (st := []) (v := .int (bI (decide (nI (0) ≤ v0) && decide (v0 ≤ nI (2))))) dX11_reading_31 kX11_reading_180 s159 aEok0 rfl rfl (Nat.le_of_ble_eq_true rfl) (m_isIn) ?_
      refine bNe (tgt := 39) dX11_reading_34 (by decide) (fun c3 => ?_) (fun c3 => ?_)
      · obtain ⟨v, hv, rfl⟩ := (isIn_lt (by decide)).mp c3
        refine aX_aload_n dX11_reading_39 rfl ?_
        refine aX_iload_n dX11_reading_40 rfl ?_
        refine aX_iload_n dX11_reading_41 rfl ?_
        refine aX_iload_n dX11_reading_42 rfl ?_
        refine cVp (As := [.int (nI (k)), .int (nI (rd)), .int (nI (m))]) (st := []) (v := .int (rQ (jSl z.1 z.2.1 q.1 rd m))) dX11_reading_43 kX11_reading_170 s159 aEok0 rfl rfl (Nat.le_of_ble_eq_true rfl) (m_ratioOf hR hs ho hS hl hq hp (by omega) hm honq) ?_
        refine aX_istore (lv' := [(0, .ref 159), (1, .int (nI (k))), (2, .int (nI (rd))), (3, .int (nI (m))), (4, .int (nI (v))), (5, .int (rQ (jSl z.1 z.2.1 q.1 rd m)))]) dX11_reading_46 (by decide) rfl ?_
        refine aX_iload dX11_reading_48 rfl ?_
        refine aX_iconst (v := nI 2) dX11_reading_50 (by decide) ?_
        refine nNe (tgt := 64) dX11_reading_51 (by decide) (by first | omega | exact Nat.lt_of_le_of_lt (Nat.mod_le _ _) (by omega)) (by first | omega | exact Nat.lt_of_le_of_lt (Nat.mod_le _ _) (by omega)) (fun c4 => ?_) (fun c4 => ?_)
        · refine aX_iload dX11_reading_64 rfl ?_
          refine aX_bipush (v := (-9)) dX11_reading_66 (by decide) ?_
          refine aX_icmp_ne (tgt := 75) dX11_reading_68 (by decide) (fun c5 => ?_) (fun c5 => ?_)
          · have h36 : ¬ jSl z.1 z.2.1 q.1 rd m = 36 := fun e => by rw [e] at c5; exact c5 rfl
            obtain ⟨cc, ii, hcc, hii, e3⟩ := (jSl_ok z.1 z.2.1 q.1 rd m).resolve_left h36
            have hrk := (hl.1 cc hcc).1
            obtain ⟨y1, y2, _⟩ := hl.2.2.1 cc ii (jSl z.1 z.2.1 q.1 rd m) hcc hii e3
            rw [← e3] at y1 y2
            have hrq : rQ (jSl z.1 z.2.1 q.1 rd m) = nI (jSl z.1 z.2.1 q.1 rd m) := if_neg h36
            have hU : jU z.2.1 (jSl z.1 z.2.1 q.1 rd m) = z.2.1.2.1 (jSl z.1 z.2.1 q.1 rd m) := if_neg h36
            have hD : jD z.2.1 (jSl z.1 z.2.1 q.1 rd m) = z.2.1.2.2 (jSl z.1 z.2.1 q.1 rd m) := if_neg h36
            rw [hrq]
            refine aX_iload dX11_reading_75 rfl ?_
            refine nIf_ne (tgt := 90) dX11_reading_77 (by decide) (by first | omega | exact Nat.lt_of_le_of_lt (Nat.mod_le _ _) (by omega)) (fun c6 => ?_) (fun c6 => ?_)
            · refine aX_aload_n dX11_reading_90 rfl ?_
              refine aX_get dX11_reading_91 lfX11_29 s159 (f159_7 hR) ?_
              refine aX_iload dX11_reading_94 rfl ?_
              refine nIald (v := nI (z.2.1.2.2 (jSl z.1 z.2.1 q.1 rd m))) dX11_reading_96 s166 (by first | omega | exact Nat.lt_of_le_of_lt (Nat.mod_le _ _) (by omega)) (by decide) (y2) ?_
              exact rI dX11_reading_97 rfl (⟨by rw [show oReading z (nI k) (nI rd) (nI m) (nI v) = nI (z.2.1.2.2 (jSl z.1 z.2.1 q.1 rd m)) by rw [show v = 1 by omega]; unfold oReading; rw [if_pos (by rw [hrdb, c1]; rfl)]; rw [if_neg (by decide), if_pos rfl]; simp only [nI_clamp (show k < 2 ^ 31 by omega), nI_clamp (show rd < 2 ^ 31 by omega), nI_clamp (show m < 2 ^ 31 by omega)]; rw [← hqb, hD]], I, L, rfl, hz, fun _ _ _ => rfl, fun _ _ _ => rfl⟩)
            · refine aX_aload_n dX11_reading_80 rfl ?_
              refine aX_get dX11_reading_81 lfX11_26 s159 (f159_6 hR) ?_
              refine aX_iload dX11_reading_84 rfl ?_
              refine nIald (v := nI (z.2.1.2.1 (jSl z.1 z.2.1 q.1 rd m))) dX11_reading_86 s165 (by first | omega | exact Nat.lt_of_le_of_lt (Nat.mod_le _ _) (by omega)) (by decide) (y1) ?_
              refine aX_goto (tgt := 97) dX11_reading_87 (by decide) ?_
              exact rI dX11_reading_97 rfl (⟨by rw [show oReading z (nI k) (nI rd) (nI m) (nI v) = nI (z.2.1.2.1 (jSl z.1 z.2.1 q.1 rd m)) by rw [show v = 0 by omega]; unfold oReading; rw [if_pos (by rw [hrdb, c1]; rfl)]; rw [if_pos rfl]; simp only [nI_clamp (show k < 2 ^ 31 by omega), nI_clamp (show rd < 2 ^ 31 by omega), nI_clamp (show m < 2 ^ 31 by omega)]; rw [← hqb, hU]], I, L, rfl, hz, fun _ _ _ => rfl, fun _ _ _ => rfl⟩)
          · have h36 : jSl z.1 z.2.1 q.1 rd m = 36 := by
              refine Classical.byContradiction (fun e => ?_)
              have y := c5
              unfold rQ at y
              rw [if_neg e] at y
              exact nI_ne9 (by have := slOk_lt hl.1 (jSl_ok z.1 z.2.1 q.1 rd m); omega) y
            have hval : oReading z (nI k) (nI rd) (nI m) (nI v) = nI 1 := by
              rcases (show v = 0 ∨ v = 1 by omega) with e | e
              · rw [e]; unfold oReading; rw [if_pos (by rw [hrdb, c1]; rfl)]; rw [if_pos rfl]; simp only [nI_clamp (show k < 2 ^ 31 by omega), nI_clamp (show rd < 2 ^ 31 by omega), nI_clamp (show m < 2 ^ 31 by omega)]; rw [← hqb, h36]; rfl
              · rw [e]; unfold oReading; rw [if_pos (by rw [hrdb, c1]; rfl)]; rw [if_neg (by decide), if_pos rfl]; simp only [nI_clamp (show k < 2 ^ 31 by omega), nI_clamp (show rd < 2 ^ 31 by omega), nI_clamp (show m < 2 ^ 31 by omega)]; rw [← hqb, h36]; rfl
            refine aX_iconst (v := nI 1) dX11_reading_71 (by decide) ?_
            refine aX_goto (tgt := 97) dX11_reading_72 (by decide) ?_
            exact rI dX11_reading_97 rfl (⟨by rw [hval], I, L, rfl, hz, fun _ _ _ => rfl, fun _ _ _ => rfl⟩)
        · refine aX_aload_n dX11_reading_54 rfl ?_
          refine aX_iload_n dX11_reading_55 rfl ?_
          refine aX_iload_n dX11_reading_56 rfl ?_
          refine aX_iload_n dX11_reading_57 rfl ?_
          refine cVp (As := [.int (nI (k)), .int (nI (rd)), .int (nI (m))]) (st := []) (v := .int (jTg z.1 z.2.1 q.1 rd m)) dX11_reading_58 kX11_reading_195 s159 aEok0 rfl rfl (Nat.le_of_ble_eq_true rfl) (m_targetOf hR hs ho hS hl hq hp (by omega) hm honq) ?_
          refine aX_goto (tgt := 97) dX11_reading_61 (by decide) ?_
          exact rI dX11_reading_97 rfl (⟨by rw [show oReading z (nI k) (nI rd) (nI m) (nI v) = jTg z.1 z.2.1 q.1 rd m by rw [show v = 2 by omega]; unfold oReading; rw [if_pos (by rw [hrdb, c1]; rfl)]; rw [if_neg (by decide), if_neg (by decide), if_pos rfl]; simp only [nI_clamp (show k < 2 ^ 31 by omega), nI_clamp (show rd < 2 ^ 31 by omega), nI_clamp (show m < 2 ^ 31 by omega)]; rw [← hqb]], I, L, rfl, hz, fun _ _ _ => rfl, fun _ _ _ => rfl⟩)
      · have hne : ∀ u, u ≤ 2 → ¬ v0 = nI u := fun u hu e => by have g := (isIn_lt (x := v0) (a := 2) (by decide)).mpr ⟨u, hu, e⟩; rw [c3] at g; cases g
        refine aX_iconst (v := (-1)) dX11_reading_37 (by decide) ?_
        exact rI dX11_reading_38 rfl (⟨by rw [show oReading z (nI k) (nI rd) (nI m) v0 = -1 by unfold oReading; rw [if_pos (by rw [hrdb, c1]; rfl), if_neg (hne 0 (by decide)), if_neg (hne 1 (by decide)), if_neg (hne 2 (by decide))]], I, L, rfl, hz, fun _ _ _ => rfl, fun _ _ _ => rfl⟩)
