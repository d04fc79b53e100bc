/-! THE REFERENCE: chains and pumps -/
def byV (o : Option Nat) : Int32 := match o with
  | none => -9
  | some m => nI m
def bth (s : jN) (k m : Nat) : Prop := jOn s m (jB s k) = true ∧ jOn s m (jB s (k - 1)) = true
/-- the first one from c on -/
def byC (s : jN) (k c : Nat) (o : Option Nat) : Prop := match o with
  | none => ∀ m, c ≤ m → m < s.1 → ¬ bth s k m
  | some m => c ≤ m ∧ m < s.1 ∧ bth s k m ∧ ∀ x, c ≤ x → x < m → ¬ bth s k x
theorem flt_none (s : jN) (t : Nat) (p : Nat → Bool) : ∀ n, (∀ m, m < n → ¬ (jOn s m t = true ∧ p m = true)) → (jML s t n).filter p = []
  | 0, _ => rfl
  | n + 1, h => by
    have ih := flt_none s t p n (fun m hm => h m (by omega))
    have u : jML s t (n + 1) = if jOn s n t then jML s t n ++ [n] else jML s t n := rfl
    rw [u]
    by_cases e : jOn s n t = true
    · have hp : ¬ p n = true := fun z => h n (by omega) ⟨e, z⟩
      rw [if_pos e, List.filter_append, ih, List.filter_cons_of_neg hp]; rfl
    · rw [if_neg e]; exact ih
theorem flt_some (s : jN) (t : Nat) (p : Nat → Bool) (m0 : Nat) (h1 : jOn s m0 t = true) (h2 : p m0 = true) (h3 : ∀ x, x < m0 → ¬ (jOn s x t = true ∧ p x = true)) : ∀ n, m0 < n → ((jML s t n).filter p)[0]? = some m0
  | 0, h => absurd h (by omega)
  | n + 1, h => by
    have u : jML s t (n + 1) = if jOn s n t then jML s t n ++ [n] else jML s t n := rfl
    rw [u]
    by_cases e : m0 = n
    · subst e
      rw [if_pos h1, List.filter_append, flt_none s t p m0 h3, List.filter_cons_of_pos h2]; rfl
    · have ih := flt_some s t p m0 h1 h2 h3 n (by omega)
      by_cases g : jOn s n t = true
      · rw [if_pos g, List.filter_append]
        have hl : 0 < ((jML s t n).filter p).length := (List.getElem?_eq_some_iff.mp ih).1
        rw [List.getElem?_append_left hl]; exact ih
      · rw [if_neg g]; exact ih
theorem byC_skip {s : jN} {k c : Nat} {o : Option Nat} (h : byC s k (c + 1) o) (hno : ¬ bth s k c) : byC s k c o := by
  have key : ∀ x, ¬ x = c → c ≤ x → c + 1 ≤ x := fun x a b => by omega
  cases o with
  | none =>
    intro m h1 h2
    by_cases e : m = c
    · rw [e]; exact hno
    · exact h m (key m e h1) h2
  | some m =>
    refine ⟨Nat.le_of_succ_le h.1, h.2.1, h.2.2.1, ?_⟩
    intro x h1 h2
    by_cases e : x = c
    · rw [e]; exact hno
    · exact h.2.2.2 x (key x e h1) h2
theorem byC_0 {s : jN} {k : Nat} (hk : 0 < k) {o : Option Nat} (h : byC s k 0 o) : (jCm s (k - 1))[0]? = o := by
  have e : jCm s (k - 1) = (jML s (jB s (k - 1)) s.1).filter (fun m => jOn s m (jB s k)) := by
    unfold jCm jMem jB
    rw [show k - 1 + 1 = k by omega]
  rw [e]
  cases o with
  | none => rw [flt_none s _ _ s.1 (fun m hm z => h m (Nat.zero_le _) hm ⟨z.2, z.1⟩)]; rfl
  | some m => exact flt_some s _ _ m h.2.2.1.2 h.2.2.1.1 (fun x hx z => h.2.2.2 x (Nat.zero_le _) hx ⟨z.2, z.1⟩) s.1 h.2.1
def chO (s : jN) (k : Nat) (o : Option Nat) : Nat := match o with
  | none => k
  | some _ => jChn s (k - 1)
def shO (s : jN) (r : jR) (ch : Nat → Nat) (k : Nat) (o : Option Nat) (p : Nat) : Int32 := match o with
  | none => 0
  | some m => jMu s r ch k m (-1) (jMu s r ch (k - 1) m 1 (jSh s r ch (k - 1))) p
theorem jChn_o {s : jN} {k : Nat} {o : Option Nat} (h : (k = 0 ∧ o = none) ∨ (0 < k ∧ (jCm s (k - 1))[0]? = o)) : jChn s k = chO s k o := by
  rcases h with ⟨rfl, rfl⟩ | ⟨h1, h2⟩
  · rfl
  · obtain ⟨d, rfl⟩ : ∃ d, k = d + 1 := ⟨k - 1, by omega⟩
    rw [Nat.add_sub_cancel] at h2
    unfold jChn
    rw [h2]
    cases o <;> rfl
theorem jSh_o {s : jN} {r : jR} {ch : Nat → Nat} {k : Nat} {o : Option Nat} (h : (k = 0 ∧ o = none) ∨ (0 < k ∧ (jCm s (k - 1))[0]? = o)) (p : Nat) : jSh s r ch k p = shO s r ch k o p := by
  rcases h with ⟨rfl, rfl⟩ | ⟨h1, h2⟩
  · rfl
  · obtain ⟨d, rfl⟩ : ∃ d, k = d + 1 := ⟨k - 1, by omega⟩
    rw [Nat.add_sub_cancel] at h2
    unfold jSh
    rw [h2]
    cases o <;> rfl
def shIn (I : Nat → Nat → Int32) (s : jN) (r : jR) (ch : Nat → Nat) (k : Nat) : Prop := I 195 k = nI (jChn s k) ∧ (∀ p, p < 6 → I 194 (6 * k + p) = jSh s r ch k p) ∧ I 196 k = jDr s r ch k
def shK (I I' : Nat → Nat → Int32) : Prop := ∀ q j, (q < 194 ∨ 196 < q) → I' q j = I q j
theorem mu_0 (a p p' o o' : Int32) : (a + p - p') + (o - o') = ((a + 1 * p) + 1 * o + (-1) * p') + (-1) * o' := by grind
theorem mu_n (a p p' : Int32) : (a + p - p') + nI 0 = (a + 1 * p) + (-1) * p' := by
  show (a + p - p') + 0 = _
  grind
theorem dr_eq (l d : Int32) : (-10000) * d + l = l - nI 10000 * d := by
  show (-10000) * d + l = l - 10000 * d
  grind
set_option maxHeartbeats 1000000 in
theorem ml_shBy {I : Nat → Nat → Int32} {L : Nat → Nat → Int64} {R : Nat → Nat → Option Nat} (hR : aRf R) {s : jN} (hs : mnRep I s) (ho : jOk s) (hS : msRep I s (jS s)) {k : Nat} (hk : k < (jS s).length) (hk0 : 0 < k) {Q : Option Value → aH → Prop} (kk : ∀ o, byC s k 0 o → aX mX11_shifts aE0 (sh0, I, L, R) 60 [(0, .ref 159), (1, .int (nI k)), (2, .int (byV o)), (3, .int (-1))] [] 0 0 Q) : ∀ (k9 c : Nat), c ≤ s.1 → c = k9 → ∀ (o : Option Nat), byC s k c o → aX mX11_shifts aE0 (sh0, I, L, R) 20 [(0, .ref 159), (1, .int (nI (k))), (2, .int (byV o)), (3, .int (jDn c))] [] 0 0 Q := by
  intro k9
  induction k9 using Nat.strongRecOn with
  | _ k9 ih =>
    intro c hi hk9 o  hby
    have hn := ho.1
    have hSl := jS_len s
    obtain ⟨qk, hqk, hqb⟩ := jQ hk
    obtain ⟨qp, hqp, hqpb⟩ := jQ (show k - 1 < (jS s).length by omega)
    cases c with
    | zero =>
      refine aX_iload_n dX11_shifts_20 rfl ?_
      refine aX_if_lt (tgt := 60) dX11_shifts_21 (by decide) (fun c1 => ?_) (fun c1 => ?_)
      · exact kk o hby
      · exact absurd (by decide) c1
    | succ c =>
      refine aX_iload_n dX11_shifts_20 rfl ?_
      refine aX_if_lt (tgt := 60) dX11_shifts_21 (by decide) (fun c2 => ?_) (fun c2 => ?_)
      · exact absurd c2 (nI_pos (by omega))
      · refine aX_iload_n dX11_shifts_24 rfl ?_
        refine nIf_le (tgt := 60) dX11_shifts_25 (by decide) (by first | omega | exact Nat.lt_of_le_of_lt (Nat.mod_le _ _) (by omega)) (fun c3 => ?_) (fun c3 => ?_)
        · exact absurd c3 (by omega)
        · refine aX_aload_n dX11_shifts_28 rfl ?_
          refine aX_iload_n dX11_shifts_29 rfl ?_
          refine aX_iload_n dX11_shifts_30 rfl ?_
          refine cVp (As := [.int (nI (k)), .int (nI (c))]) (st := []) (v := .int (bI (jOn s c (jB s k)))) dX11_shifts_31 kX11_shifts_163 s159 aEok0 rfl rfl (Nat.le_of_ble_eq_true rfl) (by rw [← hqb]; exact m_sounds0 hR hs ho hS hSl hqk (by omega)) ?_
          refine bEq (tgt := 52) dX11_shifts_34 (by decide) (fun c4 => ?_) (fun c4 => ?_)
          · have hno : ¬ bth s k c := fun z => absurd z.1 (by rw [c4]; exact Bool.false_ne_true)
            refine aX_iload_n dX11_shifts_52 rfl ?_
            refine aX_istore_n (lv' := [(0, .ref 159), (1, .int (nI (k))), (2, .int (byV o)), (3, .int (nI (c)))]) dX11_shifts_53 (by decide) rfl ?_
            refine aX_iinc (v := (nI (c)) + (-1)) (lv' := [(0, .ref 159), (1, .int (nI (k))), (2, .int (byV o)), (3, .int ((nI (c)) + (-1)))]) dX11_shifts_54 rfl rfl (by decide) rfl ?_
            refine aX_goto (tgt := 20) dX11_shifts_57 (by decide) ?_
            refine aX_lv (lv' := [(0, .ref 159), (1, .int (nI (k))), (2, .int (byV o)), (3, .int (jDn c))]) [0, 1, 2, 3] (by rw [← jDn_dec]; rfl) ?_
            exact ih c (by omega) c (by omega) rfl o (byC_skip hby hno)
          · have hon1 := c4
            refine aX_aload_n dX11_shifts_37 rfl ?_
            refine aX_iload_n dX11_shifts_38 rfl ?_
            refine aX_iconst (v := nI 1) dX11_shifts_39 (by decide) ?_
            refine nSub dX11_shifts_40 (by first | omega | exact Nat.lt_of_le_of_lt (Nat.mod_le _ _) (by omega)) ?_
            refine aX_iload_n dX11_shifts_41 rfl ?_
            refine cVp (As := [.int (nI (k - 1)), .int (nI (c))]) (st := []) (v := .int (bI (jOn s c (jB s (k - 1))))) dX11_shifts_42 kX11_shifts_163 s159 aEok0 rfl rfl (Nat.le_of_ble_eq_true rfl) (by rw [← hqpb]; exact m_sounds0 hR hs ho hS hSl hqp (by omega)) ?_
            refine bEq (tgt := 52) dX11_shifts_45 (by decide) (fun c5 => ?_) (fun c5 => ?_)
            · have hno : ¬ bth s k c := fun z => absurd z.2 (by rw [c5]; exact Bool.false_ne_true)
              refine aX_iload_n dX11_shifts_52 rfl ?_
              refine aX_istore_n (lv' := [(0, .ref 159), (1, .int (nI (k))), (2, .int (byV o)), (3, .int (nI (c)))]) dX11_shifts_53 (by decide) rfl ?_
              refine aX_iinc (v := (nI (c)) + (-1)) (lv' := [(0, .ref 159), (1, .int (nI (k))), (2, .int (byV o)), (3, .int ((nI (c)) + (-1)))]) dX11_shifts_54 rfl rfl (by decide) rfl ?_
              refine aX_goto (tgt := 20) dX11_shifts_57 (by decide) ?_
              refine aX_lv (lv' := [(0, .ref 159), (1, .int (nI (k))), (2, .int (byV o)), (3, .int (jDn c))]) [0, 1, 2, 3] (by rw [← jDn_dec]; rfl) ?_
              exact ih c (by omega) c (by omega) rfl o (byC_skip hby hno)
            · have hye : bth s k c := ⟨hon1, c5⟩
              refine aX_iload_n dX11_shifts_48 rfl ?_
              refine aX_goto (tgt := 53) dX11_shifts_49 (by decide) ?_
              refine aX_istore_n (lv' := [(0, .ref 159), (1, .int (nI (k))), (2, .int (nI (c))), (3, .int (nI (c)))]) dX11_shifts_53 (by decide) rfl ?_
              refine aX_iinc (v := (nI (c)) + (-1)) (lv' := [(0, .ref 159), (1, .int (nI (k))), (2, .int (nI (c))), (3, .int ((nI (c)) + (-1)))]) dX11_shifts_54 rfl rfl (by decide) rfl ?_
              refine aX_goto (tgt := 20) dX11_shifts_57 (by decide) ?_
              refine aX_lv (lv' := [(0, .ref 159), (1, .int (nI (k))), (2, .int (nI (c))), (3, .int (jDn c))]) [0, 1, 2, 3] (by rw [← jDn_dec]; rfl) ?_
              refine aX_lv (lv' := [(0, .ref 159), (1, .int (nI (k))), (2, .int (byV (some c))), (3, .int (jDn c))]) [0, 1, 2, 3] rfl ?_
              exact ih c (by omega) c (by omega) rfl (some c) ⟨Nat.le_refl _, by omega, hye, fun x h1 h2 => by omega⟩
set_option maxHeartbeats 1000000 in
theorem ml_shQ0 {I : Nat → Nat → Int32} {L : Nat → Nat → Int64} {R : Nat → Nat → Option Nat} (hR : aRf R) {s : jN} (hs : mnRep I s) (ho : jOk s) (hS : msRep I s (jS s)) {r : jR} (hl : mlRep I r) {w : jW} (hcz : czOk s r) (hch : ∀ k, k < (jS s).length → I 179 k = nI (jChs s r w k)) {k : Nat} (hk : k < (jS s).length) (hno : (k = 0 ∧ (none : Option Nat) = none) ∨ (0 < k ∧ (jCm s (k - 1))[0]? = none)) {Q : Option Value → aH → Prop} (kk : ∀ I2 : Nat → Nat → Int32, (∀ p, p < 6 → I2 194 (6 * k + p) = jSh s r (jChs s r w) k p) → (∀ q j, ¬ (q = 194 ∧ 6 * k ≤ j ∧ j < 6 * k + 6) → I2 q j = I q j) → aX mX11_shifts aE0 (sh0, I2, L, R) 203 [(0, .ref 159), (1, .int (nI k)), (2, .int (-9)), (3, .int (nI 6))] [] 0 0 Q) : ∀ (k9 q : Nat), q ≤ 6 → 6 - q = k9 → ∀ (I1 : Nat → Nat → Int32), (∀ p, p < q → I1 194 (6 * k + p) = jSh s r (jChs s r w) k p) → (∀ q j, ¬ (q = 194 ∧ 6 * k ≤ j ∧ j < 6 * k + 6) → I1 q j = I q j) → aX mX11_shifts aE0 (sh0, I1, L, R) 86 [(0, .ref 159), (1, .int (nI (k))), (2, .int ((-9))), (3, .int (nI (q)))] [] 0 0 Q := by
  intro k9
  induction k9 using Nat.strongRecOn with
  | _ k9 ih =>
    intro q hi hk9 I1  hsh hk1
    have hn := ho.1
    have hSl := jS_len s
    refine aX_iload_n dX11_shifts_86 rfl ?_
    refine aX_bipush (v := nI 6) dX11_shifts_87 (by decide) ?_
    refine nGe (tgt := 203) dX11_shifts_89 (by decide) (by first | omega | exact Nat.lt_of_le_of_lt (Nat.mod_le _ _) (by omega)) (by first | omega | exact Nat.lt_of_le_of_lt (Nat.mod_le _ _) (by omega)) (fun c1 => ?_) (fun c1 => ?_)
    · obtain rfl : q = 6 := by omega
      refine aX_lv (lv' := [(0, .ref 159), (1, .int (nI k)), (2, .int ((-9))), (3, .int (nI 6))]) [0, 1, 2, 3] rfl ?_
      exact kk I1 hsh hk1
    · have hq6 : q < 6 := c1
      refine aX_iconst (v := nI 0) dX11_shifts_92 (by decide) ?_
      refine aX_istore (lv' := [(0, .ref 159), (1, .int (nI (k))), (2, .int ((-9))), (3, .int (nI (q))), (4, .int (nI (0)))]) dX11_shifts_93 (by decide) rfl ?_
      refine aX_iload_n dX11_shifts_95 rfl ?_
      refine aX_bipush (v := (-9)) dX11_shifts_96 (by decide) ?_
      refine aX_icmp_eq (tgt := 184) dX11_shifts_98 (by decide) (fun c2 => ?_) (fun c2 => ?_)
      · refine aX_aload_n dX11_shifts_184 rfl ?_
        refine aX_get dX11_shifts_185 lfX11_123 s159 (f159_44 hR) ?_
        refine aX_bipush (v := nI 6) dX11_shifts_188 (by decide) ?_
        refine aX_iload_n dX11_shifts_190 rfl ?_
        refine nMul dX11_shifts_191 ?_
        refine aX_iload_n dX11_shifts_192 rfl ?_
        refine nAdd dX11_shifts_193 ?_
        refine aX_iload dX11_shifts_194 rfl ?_
        refine nIast dX11_shifts_196 s194 (by first | omega | exact Nat.lt_of_le_of_lt (Nat.mod_le _ _) (by omega)) (by decide) ?_
        refine nInc (lv' := [(0, .ref 159), (1, .int (nI (k))), (2, .int ((-9))), (3, .int (nI (q + 1))), (4, .int (nI (0)))]) dX11_shifts_197 rfl rfl (by decide) rfl ?_
        refine aX_goto (tgt := 86) dX11_shifts_200 (by decide) ?_
        refine aX_lv (lv' := [(0, .ref 159), (1, .int (nI (k))), (2, .int ((-9))), (3, .int (nI (q + 1)))]) [0, 1, 2, 3] rfl ?_
        exact ih (6 - (q + 1)) (by omega) (q + 1) (by omega) rfl _ (fun p hp => by
          by_cases e : p = q
          · rw [e, aU_s, jSh_o hno q]; rfl
          · rw [aU_n (by omega)]; exact hsh p (by omega)) (fun a j g => by rw [aU_n (by omega)]; exact hk1 a j g)
      · exact absurd rfl c2
set_option maxHeartbeats 1000000 in
theorem ml_shQ1 {I : Nat → Nat → Int32} {L : Nat → Nat → Int64} {R : Nat → Nat → Option Nat} (hR : aRf R) {s : jN} (hs : mnRep I s) (ho : jOk s) (hS : msRep I s (jS s)) {r : jR} (hl : mlRep I r) {w : jW} (hcz : czOk s r) (hch : ∀ k, k < (jS s).length → I 179 k = nI (jChs s r w k)) {k : Nat} (hk : k < (jS s).length) {m : Nat} (hk0 : 0 < k) (hm : m < s.1) (hbt : bth s k m) (hsm : (jCm s (k - 1))[0]? = some m) (hpv : ∀ p, p < 6 → I 194 (6 * (k - 1) + p) = jSh s r (jChs s r w) (k - 1) p) {Q : Option Value → aH → Prop} (kk : ∀ I2 : Nat → Nat → Int32, (∀ p, p < 6 → I2 194 (6 * k + p) = jSh s r (jChs s r w) k p) → (∀ q j, ¬ (q = 194 ∧ 6 * k ≤ j ∧ j < 6 * k + 6) → I2 q j = I q j) → aX mX11_shifts aE0 (sh0, I2, L, R) 203 [(0, .ref 159), (1, .int (nI k)), (2, .int (nI m)), (3, .int (nI 6))] [] 0 0 Q) : ∀ (k9 q : Nat), q ≤ 6 → 6 - q = k9 → ∀ (I1 : Nat → Nat → Int32), (∀ p, p < q → I1 194 (6 * k + p) = jSh s r (jChs s r w) k p) → (∀ q j, ¬ (q = 194 ∧ 6 * k ≤ j ∧ j < 6 * k + 6) → I1 q j = I q j) → aX mX11_shifts aE0 (sh0, I1, L, R) 86 [(0, .ref 159), (1, .int (nI (k))), (2, .int (nI (m))), (3, .int (nI (q)))] [] 0 0 Q := by
  intro k9
  induction k9 using Nat.strongRecOn with
  | _ k9 ih =>
    intro q hi hk9 I1  hsh hk1
    have hn := ho.1
    have hSl := jS_len s
    have hkI : shK I I1 := fun a j g => hk1 a j (by omega)
    have hs1 : mnRep I1 s := mnRep_of (fun q j g => hkI q j (by omega)) hs
    have hS1 : msRep I1 s (jS s) := msRep_of (fun q j g => hkI q j (by omega)) hS
    have hl1 : mlRep I1 r := mlRep_of (fun q j _ _ => hkI q j (by omega)) hl
    obtain ⟨qk, hqk, hqb⟩ := jQ hk
    obtain ⟨qp, hqp, hqpb⟩ := jQ (show k - 1 < (jS s).length by omega)
    have hc0 : ∀ a, a < (jS s).length → jChs s r w a < 2 ^ 31 := fun a ha => by
      have y := jChs_lt2 w hcz a ha
      have z := (hcz.2 a ha).2
      obtain ⟨qa, hqa, hqab⟩ := jQ ha
      rw [jCn_q hqa (by rw [hqab]; exact z), hqab] at y
      omega
    have hcA := hc0 k hk
    have hcB := hc0 (k - 1) (by omega)
    refine aX_iload_n dX11_shifts_86 rfl ?_
    refine aX_bipush (v := nI 6) dX11_shifts_87 (by decide) ?_
    refine nGe (tgt := 203) dX11_shifts_89 (by decide) (by first | omega | exact Nat.lt_of_le_of_lt (Nat.mod_le _ _) (by omega)) (by first | omega | exact Nat.lt_of_le_of_lt (Nat.mod_le _ _) (by omega)) (fun c1 => ?_) (fun c1 => ?_)
    · obtain rfl : q = 6 := by omega
      refine aX_lv (lv' := [(0, .ref 159), (1, .int (nI k)), (2, .int (nI (m))), (3, .int (nI 6))]) [0, 1, 2, 3] rfl ?_
      exact kk I1 hsh hk1
    · have hq6 : q < 6 := c1
      refine aX_iconst (v := nI 0) dX11_shifts_92 (by decide) ?_
      refine aX_istore (lv' := [(0, .ref 159), (1, .int (nI (k))), (2, .int (nI (m))), (3, .int (nI (q))), (4, .int (nI (0)))]) dX11_shifts_93 (by decide) rfl ?_
      refine aX_iload_n dX11_shifts_95 rfl ?_
      refine aX_bipush (v := (-9)) dX11_shifts_96 (by decide) ?_
      refine aX_icmp_eq (tgt := 184) dX11_shifts_98 (by decide) (fun c2 => ?_) (fun c2 => ?_)
      · exact absurd c2 (nI_ne9 (by omega))
      · refine aX_aload_n dX11_shifts_101 rfl ?_
        refine aX_get dX11_shifts_102 lfX11_123 s159 (f159_44 hR) ?_
        refine aX_bipush (v := nI 6) dX11_shifts_105 (by decide) ?_
        refine aX_iload_n dX11_shifts_107 rfl ?_
        refine aX_iconst (v := nI 1) dX11_shifts_108 (by decide) ?_
        refine nSub dX11_shifts_109 (by first | omega | exact Nat.lt_of_le_of_lt (Nat.mod_le _ _) (by omega)) ?_
        refine nMul dX11_shifts_110 ?_
        refine aX_iload_n dX11_shifts_111 rfl ?_
        refine nAdd dX11_shifts_112 ?_
        refine nIald (v := jSh s r (jChs s r w) (k - 1) q) dX11_shifts_113 s194 (by first | omega | exact Nat.lt_of_le_of_lt (Nat.mod_le _ _) (by omega)) (by decide) ((hk1 194 _ (by omega)).trans (hpv q hq6)) ?_
        refine aX_aload_n dX11_shifts_114 rfl ?_
        refine aX_aload_n dX11_shifts_115 rfl ?_
        refine aX_iload_n dX11_shifts_116 rfl ?_
        refine aX_iconst (v := nI 1) dX11_shifts_117 (by decide) ?_
        refine nSub dX11_shifts_118 (by first | omega | exact Nat.lt_of_le_of_lt (Nat.mod_le _ _) (by omega)) ?_
        refine aX_aload_n dX11_shifts_119 rfl ?_
        refine aX_get dX11_shifts_120 lfX11_75 s159 (f159_24 hR) ?_
        refine aX_iload_n dX11_shifts_123 rfl ?_
        refine aX_iconst (v := nI 1) dX11_shifts_124 (by decide) ?_
        refine nSub dX11_shifts_125 (by first | omega | exact Nat.lt_of_le_of_lt (Nat.mod_le _ _) (by omega)) ?_
        refine nIald (v := nI (jChs s r w (k - 1))) dX11_shifts_126 s179 (by first | omega | exact Nat.lt_of_le_of_lt (Nat.mod_le _ _) (by omega)) (by decide) ((hk1 179 _ (by omega)).trans (hch (k - 1) (by omega))) ?_
        refine aX_iload_n dX11_shifts_127 rfl ?_
        refine cVp (As := [.int (nI (k - 1)), .int (nI (jChs s r w (k - 1))), .int (nI (m))]) (st := [.ref 159, .int (jSh s r (jChs s r w) (k - 1) q)]) (v := .int (rQ (jSl s r (jB s (k - 1)) (jChs s r w (k - 1)) m))) dX11_shifts_128 kX11_shifts_170 s159 aEok0 rfl rfl (Nat.le_of_ble_eq_true rfl) (by rw [← hqpb]; exact m_ratioOf hR hs1 ho hS1 hl1 hqp (by rw [hqpb]; exact jCo_pos (hcz.2 (k - 1) (by omega)).1) (by omega) hm (by rw [hqpb]; exact hbt.2)) ?_
        refine aX_iload_n dX11_shifts_131 rfl ?_
        refine cVp (As := [.int (rQ (jSl s r (jB s (k - 1)) (jChs s r w (k - 1)) m)), .int (nI (q))]) (st := [.int (jSh s r (jChs s r w) (k - 1) q)]) (v := .int (jPq s r (jB s (k - 1)) (jChs s r w (k - 1)) m q)) dX11_shifts_132 kX11_shifts_177 s159 aEok0 rfl rfl (Nat.le_of_ble_eq_true rfl) (m_power hR hl1 (jSl_ok s r _ _ m) hq6) ?_
        refine aX_iadd dX11_shifts_135 ?_
        refine aX_aload_n dX11_shifts_136 rfl ?_
        refine aX_aload_n dX11_shifts_137 rfl ?_
        refine aX_iload_n dX11_shifts_138 rfl ?_
        refine aX_aload_n dX11_shifts_139 rfl ?_
        refine aX_get dX11_shifts_140 lfX11_75 s159 (f159_24 hR) ?_
        refine aX_iload_n dX11_shifts_143 rfl ?_
        refine nIald (v := nI (jChs s r w k)) dX11_shifts_144 s179 (by first | omega | exact Nat.lt_of_le_of_lt (Nat.mod_le _ _) (by omega)) (by decide) ((hk1 179 _ (by omega)).trans (hch k hk)) ?_
        refine aX_iload_n dX11_shifts_145 rfl ?_
        refine cVp (As := [.int (nI (k)), .int (nI (jChs s r w k)), .int (nI (m))]) (st := [.ref 159, .int ((jSh s r (jChs s r w) (k - 1) q) + (jPq s r (jB s (k - 1)) (jChs s r w (k - 1)) m q))]) (v := .int (rQ (jSl s r (jB s k) (jChs s r w k) m))) dX11_shifts_146 kX11_shifts_170 s159 aEok0 rfl rfl (Nat.le_of_ble_eq_true rfl) (by rw [← hqb]; exact m_ratioOf hR hs1 ho hS1 hl1 hqk (by rw [hqb]; exact jCo_pos (hcz.2 k hk).1) (by omega) hm (by rw [hqb]; exact hbt.1)) ?_
        refine aX_iload_n dX11_shifts_149 rfl ?_
        refine cVp (As := [.int (rQ (jSl s r (jB s k) (jChs s r w k) m)), .int (nI (q))]) (st := [.int ((jSh s r (jChs s r w) (k - 1) q) + (jPq s r (jB s (k - 1)) (jChs s r w (k - 1)) m q))]) (v := .int (jPq s r (jB s k) (jChs s r w k) m q)) dX11_shifts_150 kX11_shifts_177 s159 aEok0 rfl rfl (Nat.le_of_ble_eq_true rfl) (m_power hR hl1 (jSl_ok s r _ _ m) hq6) ?_
        refine aX_isub dX11_shifts_153 ?_
        refine aX_istore (lv' := [(0, .ref 159), (1, .int (nI (k))), (2, .int (nI (m))), (3, .int (nI (q))), (4, .int (((jSh s r (jChs s r w) (k - 1) q) + (jPq s r (jB s (k - 1)) (jChs s r w (k - 1)) m q)) - (jPq s r (jB s k) (jChs s r w k) m q)))]) dX11_shifts_154 (by decide) rfl ?_
        refine aX_iload dX11_shifts_156 rfl ?_
        refine aX_iload_n dX11_shifts_158 rfl ?_
        refine nIf_ne (tgt := 180) dX11_shifts_159 (by decide) (by first | omega | exact Nat.lt_of_le_of_lt (Nat.mod_le _ _) (by omega)) (fun c3 => ?_) (fun c3 => ?_)
        · have hq0 : q ≠ 0 := by omega
          refine aX_iconst (v := nI 0) dX11_shifts_180 (by decide) ?_
          refine aX_iadd dX11_shifts_181 ?_
          refine aX_istore (lv' := [(0, .ref 159), (1, .int (nI (k))), (2, .int (nI (m))), (3, .int (nI (q))), (4, .int ((((jSh s r (jChs s r w) (k - 1) q) + (jPq s r (jB s (k - 1)) (jChs s r w (k - 1)) m q)) - (jPq s r (jB s k) (jChs s r w k) m q)) + (nI (0))))]) dX11_shifts_182 (by decide) rfl ?_
          refine aX_aload_n dX11_shifts_184 rfl ?_
          refine aX_get dX11_shifts_185 lfX11_123 s159 (f159_44 hR) ?_
          refine aX_bipush (v := nI 6) dX11_shifts_188 (by decide) ?_
          refine aX_iload_n dX11_shifts_190 rfl ?_
          refine nMul dX11_shifts_191 ?_
          refine aX_iload_n dX11_shifts_192 rfl ?_
          refine nAdd dX11_shifts_193 ?_
          refine aX_iload dX11_shifts_194 rfl ?_
          refine nIast dX11_shifts_196 s194 (by first | omega | exact Nat.lt_of_le_of_lt (Nat.mod_le _ _) (by omega)) (by decide) ?_
          refine nInc (lv' := [(0, .ref 159), (1, .int (nI (k))), (2, .int (nI (m))), (3, .int (nI (q + 1))), (4, .int ((((jSh s r (jChs s r w) (k - 1) q) + (jPq s r (jB s (k - 1)) (jChs s r w (k - 1)) m q)) - (jPq s r (jB s k) (jChs s r w k) m q)) + (nI (0))))]) dX11_shifts_197 rfl rfl (by decide) rfl ?_
          refine aX_goto (tgt := 86) dX11_shifts_200 (by decide) ?_
          refine aX_lv (lv' := [(0, .ref 159), (1, .int (nI (k))), (2, .int (nI (m))), (3, .int (nI (q + 1)))]) [0, 1, 2, 3] rfl ?_
          exact ih (6 - (q + 1)) (by omega) (q + 1) (by omega) rfl _ (fun p hp => by
            by_cases e : p = q
            · rw [e, aU_s, jSh_o (o := some m) (Or.inr ⟨hk0, hsm⟩) q]; show _ = jMu s r (jChs s r w) k m (-1) (jMu s r (jChs s r w) (k - 1) m 1 (jSh s r (jChs s r w) (k - 1))) q; unfold jMu; rw [if_neg hq0, if_neg hq0]; exact mu_n _ _ _
            · rw [aU_n (by omega)]; exact hsh p (by omega)) (fun a j g => by rw [aU_n (by omega)]; exact hk1 a j g)
        · have hq0 : q = 0 := by omega
          refine aX_aload_n dX11_shifts_162 rfl ?_
          refine aX_iload_n dX11_shifts_163 rfl ?_
          refine aX_iconst (v := nI 1) dX11_shifts_164 (by decide) ?_
          refine nSub dX11_shifts_165 (by first | omega | exact Nat.lt_of_le_of_lt (Nat.mod_le _ _) (by omega)) ?_
          refine aX_iload_n dX11_shifts_166 rfl ?_
          refine cVp (As := [.int (nI (k - 1)), .int (nI (m))]) (st := [.int (((jSh s r (jChs s r w) (k - 1) q) + (jPq s r (jB s (k - 1)) (jChs s r w (k - 1)) m q)) - (jPq s r (jB s k) (jChs s r w k) m q))]) (v := .int (jOc s (jB s (k - 1)) m)) dX11_shifts_167 kX11_shifts_174 s159 aEok0 rfl rfl (Nat.le_of_ble_eq_true rfl) (by rw [show jOc s (jB s (k - 1)) m = nI (jSt s qp.1 m / 12) by unfold jOc; rw [hqpb]]; exact m_octavesOf hR hs1 ho hS1 hSl hqp hm (by rw [hqpb]; exact hbt.2)) ?_
          refine aX_aload_n dX11_shifts_170 rfl ?_
          refine aX_iload_n dX11_shifts_171 rfl ?_
          refine aX_iload_n dX11_shifts_172 rfl ?_
          refine cVp (As := [.int (nI (k)), .int (nI (m))]) (st := [.int (jOc s (jB s (k - 1)) m), .int (((jSh s r (jChs s r w) (k - 1) q) + (jPq s r (jB s (k - 1)) (jChs s r w (k - 1)) m q)) - (jPq s r (jB s k) (jChs s r w k) m q))]) (v := .int (jOc s (jB s k) m)) dX11_shifts_173 kX11_shifts_174 s159 aEok0 rfl rfl (Nat.le_of_ble_eq_true rfl) (by rw [show jOc s (jB s k) m = nI (jSt s qk.1 m / 12) by unfold jOc; rw [hqb]]; exact m_octavesOf hR hs1 ho hS1 hSl hqk hm (by rw [hqb]; exact hbt.1)) ?_
          refine aX_isub dX11_shifts_176 ?_
          refine aX_goto (tgt := 181) dX11_shifts_177 (by decide) ?_
          refine aX_iadd dX11_shifts_181 ?_
          refine aX_istore (lv' := [(0, .ref 159), (1, .int (nI (k))), (2, .int (nI (m))), (3, .int (nI (q))), (4, .int ((((jSh s r (jChs s r w) (k - 1) q) + (jPq s r (jB s (k - 1)) (jChs s r w (k - 1)) m q)) - (jPq s r (jB s k) (jChs s r w k) m q)) + (jOc s (jB s (k - 1)) m - jOc s (jB s k) m)))]) dX11_shifts_182 (by decide) rfl ?_
          refine aX_aload_n dX11_shifts_184 rfl ?_
          refine aX_get dX11_shifts_185 lfX11_123 s159 (f159_44 hR) ?_
          refine aX_bipush (v := nI 6) dX11_shifts_188 (by decide) ?_
          refine aX_iload_n dX11_shifts_190 rfl ?_
          refine nMul dX11_shifts_191 ?_
          refine aX_iload_n dX11_shifts_192 rfl ?_
          refine nAdd dX11_shifts_193 ?_
          refine aX_iload dX11_shifts_194 rfl ?_
          refine nIast dX11_shifts_196 s194 (by first | omega | exact Nat.lt_of_le_of_lt (Nat.mod_le _ _) (by omega)) (by decide) ?_
          refine nInc (lv' := [(0, .ref 159), (1, .int (nI (k))), (2, .int (nI (m))), (3, .int (nI (q + 1))), (4, .int ((((jSh s r (jChs s r w) (k - 1) q) + (jPq s r (jB s (k - 1)) (jChs s r w (k - 1)) m q)) - (jPq s r (jB s k) (jChs s r w k) m q)) + (jOc s (jB s (k - 1)) m - jOc s (jB s k) m)))]) dX11_shifts_197 rfl rfl (by decide) rfl ?_
          refine aX_goto (tgt := 86) dX11_shifts_200 (by decide) ?_
          refine aX_lv (lv' := [(0, .ref 159), (1, .int (nI (k))), (2, .int (nI (m))), (3, .int (nI (q + 1)))]) [0, 1, 2, 3] rfl ?_
          exact ih (6 - (q + 1)) (by omega) (q + 1) (by omega) rfl _ (fun p hp => by
            by_cases e : p = q
            · rw [e, aU_s, jSh_o (o := some m) (Or.inr ⟨hk0, hsm⟩) q, hq0]; exact mu_0 _ _ _ _ _
            · rw [aU_n (by omega)]; exact hsh p (by omega)) (fun a j g => by rw [aU_n (by omega)]; exact hk1 a j g)
set_option maxHeartbeats 1000000 in
theorem ml_shD {I : Nat → Nat → Int32} {L : Nat → Nat → Int64} {R : Nat → Nat → Option Nat} (hR : aRf R) {s : jN} {r : jR} {w : jW} {k : Nat} (hk : k < 31) {I1 : Nat → Nat → Int32} (hlg : ∀ p, p < 6 → I1 169 p = jLg p) (hsh : ∀ p, p < 6 → I1 194 (6 * k + p) = jSh s r (jChs s r w) k p) {Q : Option Value → aH → Prop} {x9 base : Int32} (kk : aX mX11_shifts aE0 (sh0, I1, L, R) 275 [(0, .ref 159), (1, .int (nI k)), (2, .int x9), (3, .int (base + jLs (jSh s r (jChs s r w) k) 6)), (4, .int (nI 6))] [] 0 0 Q) : ∀ (k9 q : Nat), q ≤ 6 → 6 - q = k9 → aX mX11_shifts aE0 (sh0, I1, L, R) 239 [(0, .ref 159), (1, .int (nI (k))), (2, .int (x9)), (3, .int (base + jLs (jSh s r (jChs s r w) k) q)), (4, .int (nI (q)))] [] 0 0 Q := by
  intro k9
  induction k9 using Nat.strongRecOn with
  | _ k9 ih =>
    intro q hi hk9  
    refine aX_iload dX11_shifts_239 rfl ?_
    refine aX_bipush (v := nI 6) dX11_shifts_241 (by decide) ?_
    refine nGe (tgt := 275) dX11_shifts_243 (by decide) (by first | omega | exact Nat.lt_of_le_of_lt (Nat.mod_le _ _) (by omega)) (by first | omega | exact Nat.lt_of_le_of_lt (Nat.mod_le _ _) (by omega)) (fun c1 => ?_) (fun c1 => ?_)
    · obtain rfl : q = 6 := by omega
      exact kk
    · have hq6 : q < 6 := c1
      refine aX_iload_n dX11_shifts_246 rfl ?_
      refine aX_aload_n dX11_shifts_247 rfl ?_
      refine aX_get dX11_shifts_248 lfX11_123 s159 (f159_44 hR) ?_
      refine aX_bipush (v := nI 6) dX11_shifts_251 (by decide) ?_
      refine aX_iload_n dX11_shifts_253 rfl ?_
      refine nMul dX11_shifts_254 ?_
      refine aX_iload dX11_shifts_255 rfl ?_
      refine nAdd dX11_shifts_257 ?_
      refine nIald (v := jSh s r (jChs s r w) k q) dX11_shifts_258 s194 (by first | omega | exact Nat.lt_of_le_of_lt (Nat.mod_le _ _) (by omega)) (by decide) (hsh q hq6) ?_
      refine aX_aload_n dX11_shifts_259 rfl ?_
      refine aX_get dX11_shifts_260 lfX11_44 s159 (f159_10 hR) ?_
      refine aX_iload dX11_shifts_263 rfl ?_
      refine nIald (v := jLg q) dX11_shifts_265 s169 (by first | omega | exact Nat.lt_of_le_of_lt (Nat.mod_le _ _) (by omega)) (by decide) (hlg q hq6) ?_
      refine aX_imul dX11_shifts_266 ?_
      refine aX_iadd dX11_shifts_267 ?_
      refine aX_istore_n (lv' := [(0, .ref 159), (1, .int (nI (k))), (2, .int (x9)), (3, .int ((base + jLs (jSh s r (jChs s r w) k) q) + ((jSh s r (jChs s r w) k q) * (jLg q)))), (4, .int (nI (q)))]) dX11_shifts_268 (by decide) rfl ?_
      refine nInc (lv' := [(0, .ref 159), (1, .int (nI (k))), (2, .int (x9)), (3, .int ((base + jLs (jSh s r (jChs s r w) k) q) + ((jSh s r (jChs s r w) k q) * (jLg q)))), (4, .int (nI (q + 1)))]) dX11_shifts_269 rfl rfl (by decide) rfl ?_
      refine aX_goto (tgt := 239) dX11_shifts_272 (by decide) ?_
      refine aX_lv (lv' := [(0, .ref 159), (1, .int (nI k)), (2, .int x9), (3, .int (base + jLs (jSh s r (jChs s r w) k) (q + 1))), (4, .int (nI (q + 1)))]) [0, 1, 2, 3, 4] (by rw [Int32.add_assoc]; rfl) ?_
      exact ih (6 - (q + 1)) (by omega) (q + 1) (by omega) rfl
set_option maxHeartbeats 1000000 in
theorem ml_sh {I : Nat → Nat → Int32} {L : Nat → Nat → Int64} {R : Nat → Nat → Option Nat} (hR : aRf R) {s : jN} (hs : mnRep I s) (ho : jOk s) (hS : msRep I s (jS s)) {r : jR} (hl : mlRep I r) {w : jW} (hcz : czOk s r) (hch : ∀ k, k < (jS s).length → I 179 k = nI (jChs s r w k)) : ∀ (k9 k : Nat), k ≤ (jS s).length → ((jS s).length) - k = k9 → ∀ (I1 : Nat → Nat → Int32), (∀ j, j < k → shIn I1 s r (jChs s r w) j) → shK I I1 → aX mX11_shifts aE0 (sh0, I1, L, R) 2 [(0, .ref 159), (1, .int (nI (k)))] [] 0 0 (fun ans h' => ans = none ∧ ∃ I', h' = (sh0, I', L, R) ∧ (∀ k, k < (jS s).length → shIn I' s r (jChs s r w) k) ∧ shK I I') := by
  intro k9
  induction k9 using Nat.strongRecOn with
  | _ k9 ih =>
    intro k hi hk9 I1  hin hkI
    have hn := ho.1
    have hSl := jS_len s
    have hs1 : mnRep I1 s := mnRep_of (fun q j g => hkI q j (by omega)) hs
    have hS1 : msRep I1 s (jS s) := msRep_of (fun q j g => hkI q j (by omega)) hS
    have hl1 : mlRep I1 r := mlRep_of (fun q j _ _ => hkI q j (by omega)) hl
    refine aX_iload_n dX11_shifts_2 rfl ?_
    refine aX_aload_n dX11_shifts_3 rfl ?_
    refine aX_get (v := .int (nI ((jS s).length))) dX11_shifts_4 lfX11_154 s159 (congrArg Value.int (hS1.1)) ?_
    refine nGe (tgt := 288) dX11_shifts_7 (by decide) (by first | omega | exact Nat.lt_of_le_of_lt (Nat.mod_le _ _) (by omega)) (by first | omega | exact Nat.lt_of_le_of_lt (Nat.mod_le _ _) (by omega)) (fun c1 => ?_) (fun c1 => ?_)
    · exact rV dX11_shifts_288 rfl (⟨rfl, I1, rfl, fun j hj => hin j (by omega), hkI⟩)
    · have hk : k < (jS s).length := c1
      obtain ⟨qk, hqk, hqb⟩ := jQ hk
      have hbk := (jBase_in (jS_in hqk).2.2).2.1
      refine aX_bipush (v := (-9)) dX11_shifts_10 (by decide) ?_
      refine aX_istore_n (lv' := [(0, .ref 159), (1, .int (nI (k))), (2, .int ((-9)))]) dX11_shifts_12 (by decide) rfl ?_
      refine aX_aload_n dX11_shifts_13 rfl ?_
      refine aX_get (v := .int (nI (s.1))) dX11_shifts_14 lfX11_150 s159 (congrArg Value.int (hs1.1)) ?_
      refine aX_iconst (v := nI 1) dX11_shifts_17 (by decide) ?_
      refine aX_isub dX11_shifts_18 ?_
      rw [jDn_sub]
      refine aX_istore_n (lv' := [(0, .ref 159), (1, .int (nI (k))), (2, .int ((-9))), (3, .int (jDn s.1))]) dX11_shifts_19 (by decide) rfl ?_
      by_cases hk0 : 0 < k
      · refine aX_lv (lv' := [(0, .ref 159), (1, .int (nI (k))), (2, .int (byV none)), (3, .int (jDn s.1))]) [0, 1, 2, 3] rfl ?_
        refine ml_shBy hR hs1 ho hS1 hk hk0 (fun o hby => ?_) _ s.1 (Nat.le_refl _) rfl none (fun m h1 h2 => by omega)
        have hob := byC_0 hk0 hby
        cases o with
        | none =>
          have hno : (k = 0 ∧ (none : Option Nat) = none) ∨ (0 < k ∧ (jCm s (k - 1))[0]? = none) := Or.inr ⟨hk0, hob⟩
          refine aX_lv (lv' := [(0, .ref 159), (1, .int (nI k)), (2, .int (-9)), (3, .int (-1))]) [0, 1, 2, 3] rfl ?_
          refine aX_aload_n dX11_shifts_60 rfl ?_
          refine aX_get dX11_shifts_61 lfX11_126 s159 (f159_45 hR) ?_
          refine aX_iload_n dX11_shifts_64 rfl ?_
          refine aX_iload_n dX11_shifts_65 rfl ?_
          refine aX_bipush (v := (-9)) dX11_shifts_66 (by decide) ?_
          refine aX_icmp_ne (tgt := 75) dX11_shifts_68 (by decide) (fun c1 => ?_) (fun c1 => ?_)
          · exact absurd rfl c1
          · refine aX_iload_n dX11_shifts_71 rfl ?_
            refine aX_goto (tgt := 83) dX11_shifts_72 (by decide) ?_
            refine nIast dX11_shifts_83 s195 (by first | omega | exact Nat.lt_of_le_of_lt (Nat.mod_le _ _) (by omega)) (by decide) ?_
            obtain ⟨I2, hI2⟩ : ∃ z, z = (aU I1 195 k (nI (k))) := ⟨_, rfl⟩
            rw [← hI2]
            have hk2 : ∀ q j, ¬ (q = 195 ∧ j = k) → I2 q j = I1 q j := fun q j g => by rw [hI2, aU_n g]
            have hk2I : shK I I2 := fun q j g => (hk2 q j (by omega)).trans (hkI q j g)
            have h195 : I2 195 k = nI (jChn s k) := by rw [hI2, aU_s, jChn_o hno]; rfl
            refine aX_iconst (v := nI 0) dX11_shifts_84 (by decide) ?_
            refine aX_istore_n (lv' := [(0, .ref 159), (1, .int (nI (k))), (2, .int ((-9))), (3, .int (nI (0)))]) dX11_shifts_85 (by decide) rfl ?_
            refine ml_shQ0 hR (mnRep_of (fun q j g => hk2I q j (by omega)) hs) ho (msRep_of (fun q j g => hk2I q j (by omega)) hS) (mlRep_of (fun q j _ _ => hk2I q j (by omega)) hl) hcz (fun a ha => (hk2I 179 a (by omega)).trans (hch a ha)) hk hno (fun I3 hsh hk3 => ?_) _ 0 (by omega) rfl I2 (fun p h => by omega) (fun _ _ _ => rfl)
            have hk3I : shK I I3 := fun q j g => (hk3 q j (by omega)).trans (hk2I q j g)
            have hs3 : mnRep I3 s := mnRep_of (fun q j g => hk3I q j (by omega)) hs
            have hS3 : msRep I3 s (jS s) := msRep_of (fun q j g => hk3I q j (by omega)) hS
            have hl3 : mlRep I3 r := mlRep_of (fun q j _ _ => hk3I q j (by omega)) hl
            have hcle := jChn_le s k
            obtain ⟨qc, hqc, hqcb⟩ := jQ (show jChn s k < (jS s).length by omega)
            have hbc := (jBase_in (jS_in hqc).2.2).2.1
            have h1953 : I3 195 k = nI (jChn s k) := (hk3 195 k (by omega)).trans h195
            refine aX_sipush (v := (-10000)) dX11_shifts_203 (by decide) ?_
            refine aX_aload_n dX11_shifts_206 rfl ?_
            refine aX_get dX11_shifts_207 lfX11_7 s159 (f159_1 hR) ?_
            refine aX_aload_n dX11_shifts_210 rfl ?_
            refine aX_get dX11_shifts_211 lfX11_60 s159 (f159_18 hR) ?_
            refine aX_iload_n dX11_shifts_214 rfl ?_
            refine nIald (v := nI (jBase s qk.1)) dX11_shifts_215 s174 (by first | omega | exact Nat.lt_of_le_of_lt (Nat.mod_le _ _) (by omega)) (by decide) ((hS3.2 k qk hqk).2.2.2.1) ?_
            refine nIald (v := nI (s.2.1 (jBase s qk.1))) dX11_shifts_216 s160 (by first | omega | exact Nat.lt_of_le_of_lt (Nat.mod_le _ _) (by omega)) (by decide) ((hs3.2 _ hbk).1) ?_
            refine aX_aload_n dX11_shifts_217 rfl ?_
            refine aX_get dX11_shifts_218 lfX11_7 s159 (f159_1 hR) ?_
            refine aX_aload_n dX11_shifts_221 rfl ?_
            refine aX_get dX11_shifts_222 lfX11_60 s159 (f159_18 hR) ?_
            refine aX_aload_n dX11_shifts_225 rfl ?_
            refine aX_get dX11_shifts_226 lfX11_126 s159 (f159_45 hR) ?_
            refine aX_iload_n dX11_shifts_229 rfl ?_
            refine nIald (v := nI (jChn s k)) dX11_shifts_230 s195 (by first | omega | exact Nat.lt_of_le_of_lt (Nat.mod_le _ _) (by omega)) (by decide) (h1953) ?_
            refine nIald (v := nI (jBase s qc.1)) dX11_shifts_231 s174 (by first | omega | exact Nat.lt_of_le_of_lt (Nat.mod_le _ _) (by omega)) (by decide) ((hS3.2 _ qc hqc).2.2.2.1) ?_
            refine nIald (v := nI (s.2.1 (jBase s qc.1))) dX11_shifts_232 s160 (by first | omega | exact Nat.lt_of_le_of_lt (Nat.mod_le _ _) (by omega)) (by decide) ((hs3.2 _ hbc).1) ?_
            refine aX_isub dX11_shifts_233 ?_
            refine aX_imul dX11_shifts_234 ?_
            refine aX_istore_n (lv' := [(0, .ref 159), (1, .int (nI (k))), (2, .int ((-9))), (3, .int (((-10000)) * ((nI (s.2.1 (jBase s qk.1))) - (nI (s.2.1 (jBase s qc.1))))))]) dX11_shifts_235 (by decide) rfl ?_
            refine aX_iconst (v := nI 0) dX11_shifts_236 (by decide) ?_
            refine aX_istore (lv' := [(0, .ref 159), (1, .int (nI (k))), (2, .int ((-9))), (3, .int (((-10000)) * ((nI (s.2.1 (jBase s qk.1))) - (nI (s.2.1 (jBase s qc.1)))))), (4, .int (nI (0)))]) dX11_shifts_237 (by decide) rfl ?_
            rw [show (-10000) * (nI (s.2.1 (jBase s qk.1)) - nI (s.2.1 (jBase s qc.1))) = (-10000) * (nI (s.2.1 (jBase s qk.1)) - nI (s.2.1 (jBase s qc.1))) + jLs (jSh s r (jChs s r w) k) 0 by show _ = _ + 0; rw [Int32.add_zero]]
            refine ml_shD (I := I3) hR (s := s) (r := r) (w := w) (k := k) (by omega) (fun p hp => (hl3.2.2.2 p hp).2) hsh ?_ _ 0 (by omega) rfl
            refine aX_aload_n dX11_shifts_275 rfl ?_
            refine aX_get dX11_shifts_276 lfX11_129 s159 (f159_46 hR) ?_
            refine aX_iload_n dX11_shifts_279 rfl ?_
            refine aX_iload_n dX11_shifts_280 rfl ?_
            refine nIast dX11_shifts_281 s196 (by first | omega | exact Nat.lt_of_le_of_lt (Nat.mod_le _ _) (by omega)) (by decide) ?_
            refine nInc (lv' := [(0, .ref 159), (1, .int (nI (k + 1))), (2, .int ((-9))), (3, .int ((-10000) * (nI (s.2.1 (jBase s qk.1)) - nI (s.2.1 (jBase s qc.1))) + jLs (jSh s r (jChs s r w) k) 6)), (4, .int (nI (6)))]) dX11_shifts_282 rfl rfl (by decide) rfl ?_
            refine aX_goto (tgt := 2) dX11_shifts_285 (by decide) ?_
            refine aX_lv (lv' := [(0, .ref 159), (1, .int (nI (k + 1)))]) [0, 1] rfl ?_
            exact ih ((jS s).length - (k + 1)) (by omega) (k + 1) (by omega) rfl _ (fun j hj => by
              by_cases e : j = k
              · rw [e]
                refine ⟨by rw [aU_n (by omega)]; exact h1953, fun p hp => by rw [aU_n (by omega)]; exact hsh p hp, ?_⟩
                rw [aU_s, dr_eq]
                unfold jDr jBk
                rw [hqb, hqcb]
              · obtain ⟨a1, a2, a3⟩ := hin j (by omega)
                exact ⟨by rw [aU_n (by omega), hk3 195 j (by omega), hk2 195 j (by omega)]; exact a1, fun p hp => by rw [aU_n (by omega), hk3 194 _ (by omega), hk2 194 _ (by omega)]; exact a2 p hp, by rw [aU_n (by omega), hk3 196 j (by omega), hk2 196 j (by omega)]; exact a3⟩) (fun q j g => by rw [aU_n (by omega)]; exact hk3I q j g)
        | some m =>
          have hno : (k = 0 ∧ some m = none) ∨ (0 < k ∧ (jCm s (k - 1))[0]? = some m) := Or.inr ⟨hk0, hob⟩
          have hm := hby.2.1
          have hbt := hby.2.2.1
          have hsm := hob
          refine aX_lv (lv' := [(0, .ref 159), (1, .int (nI k)), (2, .int (nI m)), (3, .int (-1))]) [0, 1, 2, 3] rfl ?_
          refine aX_aload_n dX11_shifts_60 rfl ?_
          refine aX_get dX11_shifts_61 lfX11_126 s159 (f159_45 hR) ?_
          refine aX_iload_n dX11_shifts_64 rfl ?_
          refine aX_iload_n dX11_shifts_65 rfl ?_
          refine aX_bipush (v := (-9)) dX11_shifts_66 (by decide) ?_
          refine aX_icmp_ne (tgt := 75) dX11_shifts_68 (by decide) (fun c1 => ?_) (fun c1 => ?_)
          · refine aX_aload_n dX11_shifts_75 rfl ?_
            refine aX_get dX11_shifts_76 lfX11_126 s159 (f159_45 hR) ?_
            refine aX_iload_n dX11_shifts_79 rfl ?_
            refine aX_iconst (v := nI 1) dX11_shifts_80 (by decide) ?_
            refine nSub dX11_shifts_81 (by first | omega | exact Nat.lt_of_le_of_lt (Nat.mod_le _ _) (by omega)) ?_
            refine nIald (v := nI (jChn s (k - 1))) dX11_shifts_82 s195 (by first | omega | exact Nat.lt_of_le_of_lt (Nat.mod_le _ _) (by omega)) (by decide) ((hin (k - 1) (by omega)).1) ?_
            refine nIast dX11_shifts_83 s195 (by first | omega | exact Nat.lt_of_le_of_lt (Nat.mod_le _ _) (by omega)) (by decide) ?_
            obtain ⟨I2, hI2⟩ : ∃ z, z = (aU I1 195 k (nI (jChn s (k - 1)))) := ⟨_, rfl⟩
            rw [← hI2]
            have hk2 : ∀ q j, ¬ (q = 195 ∧ j = k) → I2 q j = I1 q j := fun q j g => by rw [hI2, aU_n g]
            have hk2I : shK I I2 := fun q j g => (hk2 q j (by omega)).trans (hkI q j g)
            have h195 : I2 195 k = nI (jChn s k) := by rw [hI2, aU_s, jChn_o hno]; rfl
            refine aX_iconst (v := nI 0) dX11_shifts_84 (by decide) ?_
            refine aX_istore_n (lv' := [(0, .ref 159), (1, .int (nI (k))), (2, .int (nI (m))), (3, .int (nI (0)))]) dX11_shifts_85 (by decide) rfl ?_
            refine ml_shQ1 hR (mnRep_of (fun q j g => hk2I q j (by omega)) hs) ho (msRep_of (fun q j g => hk2I q j (by omega)) hS) (mlRep_of (fun q j _ _ => hk2I q j (by omega)) hl) hcz (fun a ha => (hk2I 179 a (by omega)).trans (hch a ha)) hk hk0 hm hbt hsm (fun p hp => (hk2 194 _ (by omega)).trans ((hin (k - 1) (by omega)).2.1 p hp)) (fun I3 hsh hk3 => ?_) _ 0 (by omega) rfl I2 (fun p h => by omega) (fun _ _ _ => rfl)
            have hk3I : shK I I3 := fun q j g => (hk3 q j (by omega)).trans (hk2I q j g)
            have hs3 : mnRep I3 s := mnRep_of (fun q j g => hk3I q j (by omega)) hs
            have hS3 : msRep I3 s (jS s) := msRep_of (fun q j g => hk3I q j (by omega)) hS
            have hl3 : mlRep I3 r := mlRep_of (fun q j _ _ => hk3I q j (by omega)) hl
            have hcle := jChn_le s k
            obtain ⟨qc, hqc, hqcb⟩ := jQ (show jChn s k < (jS s).length by omega)
            have hbc := (jBase_in (jS_in hqc).2.2).2.1
            have h1953 : I3 195 k = nI (jChn s k) := (hk3 195 k (by omega)).trans h195
            refine aX_sipush (v := (-10000)) dX11_shifts_203 (by decide) ?_
            refine aX_aload_n dX11_shifts_206 rfl ?_
            refine aX_get dX11_shifts_207 lfX11_7 s159 (f159_1 hR) ?_
            refine aX_aload_n dX11_shifts_210 rfl ?_
            refine aX_get dX11_shifts_211 lfX11_60 s159 (f159_18 hR) ?_
            refine aX_iload_n dX11_shifts_214 rfl ?_
            refine nIald (v := nI (jBase s qk.1)) dX11_shifts_215 s174 (by first | omega | exact Nat.lt_of_le_of_lt (Nat.mod_le _ _) (by omega)) (by decide) ((hS3.2 k qk hqk).2.2.2.1) ?_
            refine nIald (v := nI (s.2.1 (jBase s qk.1))) dX11_shifts_216 s160 (by first | omega | exact Nat.lt_of_le_of_lt (Nat.mod_le _ _) (by omega)) (by decide) ((hs3.2 _ hbk).1) ?_
            refine aX_aload_n dX11_shifts_217 rfl ?_
            refine aX_get dX11_shifts_218 lfX11_7 s159 (f159_1 hR) ?_
            refine aX_aload_n dX11_shifts_221 rfl ?_
            refine aX_get dX11_shifts_222 lfX11_60 s159 (f159_18 hR) ?_
            refine aX_aload_n dX11_shifts_225 rfl ?_
            refine aX_get dX11_shifts_226 lfX11_126 s159 (f159_45 hR) ?_
            refine aX_iload_n dX11_shifts_229 rfl ?_
            refine nIald (v := nI (jChn s k)) dX11_shifts_230 s195 (by first | omega | exact Nat.lt_of_le_of_lt (Nat.mod_le _ _) (by omega)) (by decide) (h1953) ?_
            refine nIald (v := nI (jBase s qc.1)) dX11_shifts_231 s174 (by first | omega | exact Nat.lt_of_le_of_lt (Nat.mod_le _ _) (by omega)) (by decide) ((hS3.2 _ qc hqc).2.2.2.1) ?_
            refine nIald (v := nI (s.2.1 (jBase s qc.1))) dX11_shifts_232 s160 (by first | omega | exact Nat.lt_of_le_of_lt (Nat.mod_le _ _) (by omega)) (by decide) ((hs3.2 _ hbc).1) ?_
            refine aX_isub dX11_shifts_233 ?_
            refine aX_imul dX11_shifts_234 ?_
            refine aX_istore_n (lv' := [(0, .ref 159), (1, .int (nI (k))), (2, .int (nI (m))), (3, .int (((-10000)) * ((nI (s.2.1 (jBase s qk.1))) - (nI (s.2.1 (jBase s qc.1))))))]) dX11_shifts_235 (by decide) rfl ?_
            refine aX_iconst (v := nI 0) dX11_shifts_236 (by decide) ?_
            refine aX_istore (lv' := [(0, .ref 159), (1, .int (nI (k))), (2, .int (nI (m))), (3, .int (((-10000)) * ((nI (s.2.1 (jBase s qk.1))) - (nI (s.2.1 (jBase s qc.1)))))), (4, .int (nI (0)))]) dX11_shifts_237 (by decide) rfl ?_
            rw [show (-10000) * (nI (s.2.1 (jBase s qk.1)) - nI (s.2.1 (jBase s qc.1))) = (-10000) * (nI (s.2.1 (jBase s qk.1)) - nI (s.2.1 (jBase s qc.1))) + jLs (jSh s r (jChs s r w) k) 0 by show _ = _ + 0; rw [Int32.add_zero]]
            refine ml_shD (I := I3) hR (s := s) (r := r) (w := w) (k := k) (by omega) (fun p hp => (hl3.2.2.2 p hp).2) hsh ?_ _ 0 (by omega) rfl
            refine aX_aload_n dX11_shifts_275 rfl ?_
            refine aX_get dX11_shifts_276 lfX11_129 s159 (f159_46 hR) ?_
            refine aX_iload_n dX11_shifts_279 rfl ?_
            refine aX_iload_n dX11_shifts_280 rfl ?_
            refine nIast dX11_shifts_281 s196 (by first | omega | exact Nat.lt_of_le_of_lt (Nat.mod_le _ _) (by omega)) (by decide) ?_
            refine nInc (lv' := [(0, .ref 159), (1, .int (nI (k + 1))), (2, .int (nI (m))), (3, .int ((-10000) * (nI (s.2.1 (jBase s qk.1)) - nI (s.2.1 (jBase s qc.1))) + jLs (jSh s r (jChs s r w) k) 6)), (4, .int (nI (6)))]) dX11_shifts_282 rfl rfl (by decide) rfl ?_
            refine aX_goto (tgt := 2) dX11_shifts_285 (by decide) ?_
            refine aX_lv (lv' := [(0, .ref 159), (1, .int (nI (k + 1)))]) [0, 1] rfl ?_
            exact ih ((jS s).length - (k + 1)) (by omega) (k + 1) (by omega) rfl _ (fun j hj => by
              by_cases e : j = k
              · rw [e]
                refine ⟨by rw [aU_n (by omega)]; exact h1953, fun p hp => by rw [aU_n (by omega)]; exact hsh p hp, ?_⟩
                rw [aU_s, dr_eq]
                unfold jDr jBk
                rw [hqb, hqcb]
              · obtain ⟨a1, a2, a3⟩ := hin j (by omega)
                exact ⟨by rw [aU_n (by omega), hk3 195 j (by omega), hk2 195 j (by omega)]; exact a1, fun p hp => by rw [aU_n (by omega), hk3 194 _ (by omega), hk2 194 _ (by omega)]; exact a2 p hp, by rw [aU_n (by omega), hk3 196 j (by omega), hk2 196 j (by omega)]; exact a3⟩) (fun q j g => by rw [aU_n (by omega)]; exact hk3I q j g)
          · exact absurd c1 (nI_ne9 (by omega))
      · have hke : k = 0 := by omega
        have hno : (k = 0 ∧ (none : Option Nat) = none) ∨ (0 < k ∧ (jCm s (k - 1))[0]? = none) := Or.inl ⟨hke, rfl⟩
        refine aX_iload_n dX11_shifts_20 rfl ?_
        refine aX_if_lt (tgt := 60) dX11_shifts_21 (by decide) (fun c1 => ?_) (fun c1 => ?_)
        · refine aX_aload_n dX11_shifts_60 rfl ?_
          refine aX_get dX11_shifts_61 lfX11_126 s159 (f159_45 hR) ?_
          refine aX_iload_n dX11_shifts_64 rfl ?_
          refine aX_iload_n dX11_shifts_65 rfl ?_
          refine aX_bipush (v := (-9)) dX11_shifts_66 (by decide) ?_
          refine aX_icmp_ne (tgt := 75) dX11_shifts_68 (by decide) (fun c1 => ?_) (fun c1 => ?_)
          · exact absurd rfl c1
          · refine aX_iload_n dX11_shifts_71 rfl ?_
            refine aX_goto (tgt := 83) dX11_shifts_72 (by decide) ?_
            refine nIast dX11_shifts_83 s195 (by first | omega | exact Nat.lt_of_le_of_lt (Nat.mod_le _ _) (by omega)) (by decide) ?_
            obtain ⟨I2, hI2⟩ : ∃ z, z = (aU I1 195 k (nI (k))) := ⟨_, rfl⟩
            rw [← hI2]
            have hk2 : ∀ q j, ¬ (q = 195 ∧ j = k) → I2 q j = I1 q j := fun q j g => by rw [hI2, aU_n g]
            have hk2I : shK I I2 := fun q j g => (hk2 q j (by omega)).trans (hkI q j g)
            have h195 : I2 195 k = nI (jChn s k) := by rw [hI2, aU_s, jChn_o hno]; rfl
            refine aX_iconst (v := nI 0) dX11_shifts_84 (by decide) ?_
            refine aX_istore_n (lv' := [(0, .ref 159), (1, .int (nI (k))), (2, .int ((-9))), (3, .int (nI (0)))]) dX11_shifts_85 (by decide) rfl ?_
            refine ml_shQ0 hR (mnRep_of (fun q j g => hk2I q j (by omega)) hs) ho (msRep_of (fun q j g => hk2I q j (by omega)) hS) (mlRep_of (fun q j _ _ => hk2I q j (by omega)) hl) hcz (fun a ha => (hk2I 179 a (by omega)).trans (hch a ha)) hk hno (fun I3 hsh hk3 => ?_) _ 0 (by omega) rfl I2 (fun p h => by omega) (fun _ _ _ => rfl)
            have hk3I : shK I I3 := fun q j g => (hk3 q j (by omega)).trans (hk2I q j g)
            have hs3 : mnRep I3 s := mnRep_of (fun q j g => hk3I q j (by omega)) hs
            have hS3 : msRep I3 s (jS s) := msRep_of (fun q j g => hk3I q j (by omega)) hS
            have hl3 : mlRep I3 r := mlRep_of (fun q j _ _ => hk3I q j (by omega)) hl
            have hcle := jChn_le s k
            obtain ⟨qc, hqc, hqcb⟩ := jQ (show jChn s k < (jS s).length by omega)
            have hbc := (jBase_in (jS_in hqc).2.2).2.1
            have h1953 : I3 195 k = nI (jChn s k) := (hk3 195 k (by omega)).trans h195
            refine aX_sipush (v := (-10000)) dX11_shifts_203 (by decide) ?_
            refine aX_aload_n dX11_shifts_206 rfl ?_
            refine aX_get dX11_shifts_207 lfX11_7 s159 (f159_1 hR) ?_
            refine aX_aload_n dX11_shifts_210 rfl ?_
            refine aX_get dX11_shifts_211 lfX11_60 s159 (f159_18 hR) ?_
            refine aX_iload_n dX11_shifts_214 rfl ?_
            refine nIald (v := nI (jBase s qk.1)) dX11_shifts_215 s174 (by first | omega | exact Nat.lt_of_le_of_lt (Nat.mod_le _ _) (by omega)) (by decide) ((hS3.2 k qk hqk).2.2.2.1) ?_
            refine nIald (v := nI (s.2.1 (jBase s qk.1))) dX11_shifts_216 s160 (by first | omega | exact Nat.lt_of_le_of_lt (Nat.mod_le _ _) (by omega)) (by decide) ((hs3.2 _ hbk).1) ?_
            refine aX_aload_n dX11_shifts_217 rfl ?_
            refine aX_get dX11_shifts_218 lfX11_7 s159 (f159_1 hR) ?_
            refine aX_aload_n dX11_shifts_221 rfl ?_
            refine aX_get dX11_shifts_222 lfX11_60 s159 (f159_18 hR) ?_
            refine aX_aload_n dX11_shifts_225 rfl ?_
            refine aX_get dX11_shifts_226 lfX11_126 s159 (f159_45 hR) ?_
            refine aX_iload_n dX11_shifts_229 rfl ?_
            refine nIald (v := nI (jChn s k)) dX11_shifts_230 s195 (by first | omega | exact Nat.lt_of_le_of_lt (Nat.mod_le _ _) (by omega)) (by decide) (h1953) ?_
            refine nIald (v := nI (jBase s qc.1)) dX11_shifts_231 s174 (by first | omega | exact Nat.lt_of_le_of_lt (Nat.mod_le _ _) (by omega)) (by decide) ((hS3.2 _ qc hqc).2.2.2.1) ?_
            refine nIald (v := nI (s.2.1 (jBase s qc.1))) dX11_shifts_232 s160 (by first | omega | exact Nat.lt_of_le_of_lt (Nat.mod_le _ _) (by omega)) (by decide) ((hs3.2 _ hbc).1) ?_
            refine aX_isub dX11_shifts_233 ?_
            refine aX_imul dX11_shifts_234 ?_
            refine aX_istore_n (lv' := [(0, .ref 159), (1, .int (nI (k))), (2, .int ((-9))), (3, .int (((-10000)) * ((nI (s.2.1 (jBase s qk.1))) - (nI (s.2.1 (jBase s qc.1))))))]) dX11_shifts_235 (by decide) rfl ?_
            refine aX_iconst (v := nI 0) dX11_shifts_236 (by decide) ?_
            refine aX_istore (lv' := [(0, .ref 159), (1, .int (nI (k))), (2, .int ((-9))), (3, .int (((-10000)) * ((nI (s.2.1 (jBase s qk.1))) - (nI (s.2.1 (jBase s qc.1)))))), (4, .int (nI (0)))]) dX11_shifts_237 (by decide) rfl ?_
            rw [show (-10000) * (nI (s.2.1 (jBase s qk.1)) - nI (s.2.1 (jBase s qc.1))) = (-10000) * (nI (s.2.1 (jBase s qk.1)) - nI (s.2.1 (jBase s qc.1))) + jLs (jSh s r (jChs s r w) k) 0 by show _ = _ + 0; rw [Int32.add_zero]]
            refine ml_shD (I := I3) hR (s := s) (r := r) (w := w) (k := k) (by omega) (fun p hp => (hl3.2.2.2 p hp).2) hsh ?_ _ 0 (by omega) rfl
            refine aX_aload_n dX11_shifts_275 rfl ?_
            refine aX_get dX11_shifts_276 lfX11_129 s159 (f159_46 hR) ?_
            refine aX_iload_n dX11_shifts_279 rfl ?_
            refine aX_iload_n dX11_shifts_280 rfl ?_
            refine nIast dX11_shifts_281 s196 (by first | omega | exact Nat.lt_of_le_of_lt (Nat.mod_le _ _) (by omega)) (by decide) ?_
            refine nInc (lv' := [(0, .ref 159), (1, .int (nI (k + 1))), (2, .int ((-9))), (3, .int ((-10000) * (nI (s.2.1 (jBase s qk.1)) - nI (s.2.1 (jBase s qc.1))) + jLs (jSh s r (jChs s r w) k) 6)), (4, .int (nI (6)))]) dX11_shifts_282 rfl rfl (by decide) rfl ?_
            refine aX_goto (tgt := 2) dX11_shifts_285 (by decide) ?_
            refine aX_lv (lv' := [(0, .ref 159), (1, .int (nI (k + 1)))]) [0, 1] rfl ?_
            exact ih ((jS s).length - (k + 1)) (by omega) (k + 1) (by omega) rfl _ (fun j hj => by
              by_cases e : j = k
              · rw [e]
                refine ⟨by rw [aU_n (by omega)]; exact h1953, fun p hp => by rw [aU_n (by omega)]; exact hsh p hp, ?_⟩
                rw [aU_s, dr_eq]
                unfold jDr jBk
                rw [hqb, hqcb]
              · obtain ⟨a1, a2, a3⟩ := hin j (by omega)
                exact ⟨by rw [aU_n (by omega), hk3 195 j (by omega), hk2 195 j (by omega)]; exact a1, fun p hp => by rw [aU_n (by omega), hk3 194 _ (by omega), hk2 194 _ (by omega)]; exact a2 p hp, by rw [aU_n (by omega), hk3 196 j (by omega), hk2 196 j (by omega)]; exact a3⟩) (fun q j g => by rw [aU_n (by omega)]; exact hk3I q j g)
        · refine aX_iload_n dX11_shifts_24 rfl ?_
          refine nIf_le (tgt := 60) dX11_shifts_25 (by decide) (by first | omega | exact Nat.lt_of_le_of_lt (Nat.mod_le _ _) (by omega)) (fun c2 => ?_) (fun c2 => ?_)
          · refine aX_aload_n dX11_shifts_60 rfl ?_
            refine aX_get dX11_shifts_61 lfX11_126 s159 (f159_45 hR) ?_
            refine aX_iload_n dX11_shifts_64 rfl ?_
            refine aX_iload_n dX11_shifts_65 rfl ?_
            refine aX_bipush (v := (-9)) dX11_shifts_66 (by decide) ?_
            refine aX_icmp_ne (tgt := 75) dX11_shifts_68 (by decide) (fun c1 => ?_) (fun c1 => ?_)
            · exact absurd rfl c1
            · refine aX_iload_n dX11_shifts_71 rfl ?_
              refine aX_goto (tgt := 83) dX11_shifts_72 (by decide) ?_
              refine nIast dX11_shifts_83 s195 (by first | omega | exact Nat.lt_of_le_of_lt (Nat.mod_le _ _) (by omega)) (by decide) ?_
              obtain ⟨I2, hI2⟩ : ∃ z, z = (aU I1 195 k (nI (k))) := ⟨_, rfl⟩
              rw [← hI2]
              have hk2 : ∀ q j, ¬ (q = 195 ∧ j = k) → I2 q j = I1 q j := fun q j g => by rw [hI2, aU_n g]
              have hk2I : shK I I2 := fun q j g => (hk2 q j (by omega)).trans (hkI q j g)
              have h195 : I2 195 k = nI (jChn s k) := by rw [hI2, aU_s, jChn_o hno]; rfl
              refine aX_iconst (v := nI 0) dX11_shifts_84 (by decide) ?_
              refine aX_istore_n (lv' := [(0, .ref 159), (1, .int (nI (k))), (2, .int ((-9))), (3, .int (nI (0)))]) dX11_shifts_85 (by decide) rfl ?_
              refine ml_shQ0 hR (mnRep_of (fun q j g => hk2I q j (by omega)) hs) ho (msRep_of (fun q j g => hk2I q j (by omega)) hS) (mlRep_of (fun q j _ _ => hk2I q j (by omega)) hl) hcz (fun a ha => (hk2I 179 a (by omega)).trans (hch a ha)) hk hno (fun I3 hsh hk3 => ?_) _ 0 (by omega) rfl I2 (fun p h => by omega) (fun _ _ _ => rfl)
              have hk3I : shK I I3 := fun q j g => (hk3 q j (by omega)).trans (hk2I q j g)
              have hs3 : mnRep I3 s := mnRep_of (fun q j g => hk3I q j (by omega)) hs
              have hS3 : msRep I3 s (jS s) := msRep_of (fun q j g => hk3I q j (by omega)) hS
              have hl3 : mlRep I3 r := mlRep_of (fun q j _ _ => hk3I q j (by omega)) hl
              have hcle := jChn_le s k
              obtain ⟨qc, hqc, hqcb⟩ := jQ (show jChn s k < (jS s).length by omega)
              have hbc := (jBase_in (jS_in hqc).2.2).2.1
              have h1953 : I3 195 k = nI (jChn s k) := (hk3 195 k (by omega)).trans h195
              refine aX_sipush (v := (-10000)) dX11_shifts_203 (by decide) ?_
              refine aX_aload_n dX11_shifts_206 rfl ?_
              refine aX_get dX11_shifts_207 lfX11_7 s159 (f159_1 hR) ?_
              refine aX_aload_n dX11_shifts_210 rfl ?_
              refine aX_get dX11_shifts_211 lfX11_60 s159 (f159_18 hR) ?_
              refine aX_iload_n dX11_shifts_214 rfl ?_
              refine nIald (v := nI (jBase s qk.1)) dX11_shifts_215 s174 (by first | omega | exact Nat.lt_of_le_of_lt (Nat.mod_le _ _) (by omega)) (by decide) ((hS3.2 k qk hqk).2.2.2.1) ?_
              refine nIald (v := nI (s.2.1 (jBase s qk.1))) dX11_shifts_216 s160 (by first | omega | exact Nat.lt_of_le_of_lt (Nat.mod_le _ _) (by omega)) (by decide) ((hs3.2 _ hbk).1) ?_
              refine aX_aload_n dX11_shifts_217 rfl ?_
              refine aX_get dX11_shifts_218 lfX11_7 s159 (f159_1 hR) ?_
              refine aX_aload_n dX11_shifts_221 rfl ?_
              refine aX_get dX11_shifts_222 lfX11_60 s159 (f159_18 hR) ?_
              refine aX_aload_n dX11_shifts_225 rfl ?_
              refine aX_get dX11_shifts_226 lfX11_126 s159 (f159_45 hR) ?_
              refine aX_iload_n dX11_shifts_229 rfl ?_
              refine nIald (v := nI (jChn s k)) dX11_shifts_230 s195 (by first | omega | exact Nat.lt_of_le_of_lt (Nat.mod_le _ _) (by omega)) (by decide) (h1953) ?_
              refine nIald (v := nI (jBase s qc.1)) dX11_shifts_231 s174 (by first | omega | exact Nat.lt_of_le_of_lt (Nat.mod_le _ _) (by omega)) (by decide) ((hS3.2 _ qc hqc).2.2.2.1) ?_
              refine nIald (v := nI (s.2.1 (jBase s qc.1))) dX11_shifts_232 s160 (by first | omega | exact Nat.lt_of_le_of_lt (Nat.mod_le _ _) (by omega)) (by decide) ((hs3.2 _ hbc).1) ?_
              refine aX_isub dX11_shifts_233 ?_
              refine aX_imul dX11_shifts_234 ?_
              refine aX_istore_n (lv' := [(0, .ref 159), (1, .int (nI (k))), (2, .int ((-9))), (3, .int (((-10000)) * ((nI (s.2.1 (jBase s qk.1))) - (nI (s.2.1 (jBase s qc.1))))))]) dX11_shifts_235 (by decide) rfl ?_
              refine aX_iconst (v := nI 0) dX11_shifts_236 (by decide) ?_
              refine aX_istore (lv' := [(0, .ref 159), (1, .int (nI (k))), (2, .int ((-9))), (3, .int (((-10000)) * ((nI (s.2.1 (jBase s qk.1))) - (nI (s.2.1 (jBase s qc.1)))))), (4, .int (nI (0)))]) dX11_shifts_237 (by decide) rfl ?_
              rw [show (-10000) * (nI (s.2.1 (jBase s qk.1)) - nI (s.2.1 (jBase s qc.1))) = (-10000) * (nI (s.2.1 (jBase s qk.1)) - nI (s.2.1 (jBase s qc.1))) + jLs (jSh s r (jChs s r w) k) 0 by show _ = _ + 0; rw [Int32.add_zero]]
              refine ml_shD (I := I3) hR (s := s) (r := r) (w := w) (k := k) (by omega) (fun p hp => (hl3.2.2.2 p hp).2) hsh ?_ _ 0 (by omega) rfl
              refine aX_aload_n dX11_shifts_275 rfl ?_
              refine aX_get dX11_shifts_276 lfX11_129 s159 (f159_46 hR) ?_
              refine aX_iload_n dX11_shifts_279 rfl ?_
              refine aX_iload_n dX11_shifts_280 rfl ?_
              refine nIast dX11_shifts_281 s196 (by first | omega | exact Nat.lt_of_le_of_lt (Nat.mod_le _ _) (by omega)) (by decide) ?_
              refine nInc (lv' := [(0, .ref 159), (1, .int (nI (k + 1))), (2, .int ((-9))), (3, .int ((-10000) * (nI (s.2.1 (jBase s qk.1)) - nI (s.2.1 (jBase s qc.1))) + jLs (jSh s r (jChs s r w) k) 6)), (4, .int (nI (6)))]) dX11_shifts_282 rfl rfl (by decide) rfl ?_
              refine aX_goto (tgt := 2) dX11_shifts_285 (by decide) ?_
              refine aX_lv (lv' := [(0, .ref 159), (1, .int (nI (k + 1)))]) [0, 1] rfl ?_
              exact ih ((jS s).length - (k + 1)) (by omega) (k + 1) (by omega) rfl _ (fun j hj => by
                by_cases e : j = k
                · rw [e]
                  refine ⟨by rw [aU_n (by omega)]; exact h1953, fun p hp => by rw [aU_n (by omega)]; exact hsh p hp, ?_⟩
                  rw [aU_s, dr_eq]
                  unfold jDr jBk
                  rw [hqb, hqcb]
                · obtain ⟨a1, a2, a3⟩ := hin j (by omega)
                  exact ⟨by rw [aU_n (by omega), hk3 195 j (by omega), hk2 195 j (by omega)]; exact a1, fun p hp => by rw [aU_n (by omega), hk3 194 _ (by omega), hk2 194 _ (by omega)]; exact a2 p hp, by rw [aU_n (by omega), hk3 196 j (by omega), hk2 196 j (by omega)]; exact a3⟩) (fun q j g => by rw [aU_n (by omega)]; exact hk3I q j g)
          · exact absurd c2 (by omega)
set_option maxHeartbeats 1000000 in
theorem m_shifts {I : Nat → Nat → Int32} {L : Nat → Nat → Int64} {R : Nat → Nat → Option Nat} (hR : aRf R) {s : jN} (hs : mnRep I s) (ho : jOk s) (hS : msRep I s (jS s)) {r : jR} (hl : mlRep I r) {w : jW} (hcz : czOk s r) (hch : ∀ k, k < (jS s).length → I 179 k = nI (jChs s r w k)) : aM mX11_shifts [.ref 159] (sh0, I, L, R) (fun ans h' => ans = none ∧ ∃ I', h' = (sh0, I', L, R) ∧ (∀ k, k < (jS s).length → shIn I' s r (jChs s r w) k) ∧ shK I I') := by
  refine aM_of plX11_shifts (Nat.le_of_ble_eq_true rfl) ?_
  refine aX_iconst (v := nI 0) dX11_shifts_0 (by decide) ?_
  refine aX_istore_n (lv' := [(0, .ref 159), (1, .int (nI (0)))]) dX11_shifts_1 (by decide) rfl ?_
  exact ml_sh hR hs ho hS hl hcz hch _ 0 (by omega) rfl I (fun j h => by omega) (fun _ _ _ => rfl)
