/-! THE REFERENCE: its fractions told -/
theorem isDec_len {l : List Nat} {X n : Nat} (h : isDec l X) (hX : X < 10 ^ n) (hn : 0 < n) : l.length ≤ n := by
  refine Nat.le_of_not_lt (fun g => ?_)
  have h1 := h.2.2.2 (by omega)
  have hv := h.1
  cases l with
  | nil => simp at g
  | cons x t =>
    have hx : x ≠ 0 := fun z => h1 (by rw [z]; rfl)
    have e := dVal_app2 [x] t
    have e0 : dVal [x] = x := by show 0 * 10 + x = x; omega
    rw [e0] at e
    have e1 : dVal (x :: t) = x * 10 ^ t.length + dVal t := e
    have e2 : 10 ^ n ≤ 10 ^ t.length := Nat.pow_le_pow_right (by decide) (by simp at g; omega)
    have e3 : 1 * 10 ^ t.length ≤ x * 10 ^ t.length := Nat.mul_le_mul_right _ (by omega)
    omega
theorem hCp_lt {x y : Nat} : (hCp x y < 0) ↔ x < y := by
  rw [← Int32.not_le, hCp_ge]; omega
theorem hPw_360 : 2 ^ 360 < hPw 17 := by decide +kernel
theorem wt_mt {I : Nat → Nat → Int32} {l : List Nat} (h : wtRep I l) (hl : l.length ≤ 256) : mtRep I l := ⟨h.1, hl, h.2⟩
theorem mmRep_text {I I' : Nat → Nat → Int32} {L L' : Nat → Nat → Int64} {z : jZ} {l : List Nat} (hz : mmRep I L z) (h : wtK I I') (hL : ∀ q j, (187 ≤ q ∧ q ≤ 189) → L' q j = L q j) (ht : mtRep I' l) : mmRep I' L' (z.1, z.2.1, z.2.2.1, z.2.2.2.1, z.2.2.2.2.1, l) := by
  obtain ⟨a1, a2, a3, a4, a5, a6, a7, a8, a9, a10, a11, a12, a13, a14, a15⟩ := hz
  refine ⟨mnRep_of (fun q j g => h q j (by omega) (by omega)) a1, a2, a3, mlRep_of (fun q j _ _ => h q j (by omega) (by omega)) a4, a5, mwRep_of (fun j => h 170 j (by omega) (by omega)) a6, msRep_of (fun q j g => h q j (by omega) (by omega)) a7, mcRep_of (fun q j g => h q j (by omega) (by omega)) a8, (h 159 12 (by omega) (by omega)).trans a9, (h 159 13 (by omega) (by omega)).trans a10, a11, fun g => ⟨(a12 g).1, fun k hk => (h 179 k (by omega) (by omega)).trans ((a12 g).2 k hk)⟩, fun g => ?_, prRep_of (h 159 34 (by omega) (by omega)) (fun j => hL 187 j (by omega)) a14, ht⟩
  obtain ⟨b1, b2, m, b3, b4, b5⟩ := a13 g
  exact ⟨b1, (h 159 32 (by omega) (by omega)).trans b2, m, fun k hk => ⟨(hL 188 k (by omega)).trans (b3 k hk).1, (b3 k hk).2⟩, b4, fun k hk a ha => by
    obtain ⟨v, c1, c2⟩ := b5 k hk a ha
    exact ⟨v, (hL 189 _ (by omega)).trans c1, c2⟩⟩
def vNt (s : jN) (S : List (Nat × Nat)) (k : Nat) (v : Nat × (Nat → Nat → Nat)) (f : Nat → Nat) : Prop := ∀ k' m, k' < k → m ∈ jMem s (S.getD k' (0, 0)).1 → v.2 k' m < v.1 ∧ f (v.2 k' m) = m
theorem jVm_nt {s : jN} {S : List (Nat × Nat)} {k : Nat} : ∀ (l d : List Nat) (v : Nat × (Nat → Nat → Nat)) (f : Nat → Nat), (∀ m, m ∈ l → m < s.1) → vNt s S k v f → (∀ m, m ∈ d → v.2 k m < v.1 ∧ f (v.2 k m) = m) → ∃ f', vNt s S k (l.foldl (jVm s S k) v) f' ∧ (∀ m, m ∈ l ∨ m ∈ d → (l.foldl (jVm s S k) v).2 k m < (l.foldl (jVm s S k) v).1 ∧ f' ((l.foldl (jVm s S k) v).2 k m) = m)
  | [], d, v, f, _, h1, h2 => ⟨f, h1, fun m hm => h2 m (by simpa using hm)⟩
  | m :: t, d, v, f, hl, h1, h2 => by
    have key : ∃ f1, vNt s S k (jVm s S k v m) f1 ∧ ∀ x, x ∈ m :: d → (jVm s S k v m).2 k x < (jVm s S k v m).1 ∧ f1 ((jVm s S k v m).2 k x) = x := by
      unfold jVm
      by_cases hb : (s.2.2.2.2 m && decide (0 < k) && jOn s m (S.getD (k - 1) (0, 0)).1) = true
      · rw [if_pos hb]
        simp only [Bool.and_eq_true, decide_eq_true_eq] at hb
        have hprev := h1 (k - 1) m (by omega) (jML_mem.mpr ⟨hl m (List.mem_cons_self ..), hb.2⟩)
        refine ⟨f, fun k' x hk' hx => ?_, fun x hx => ?_⟩
        · show aU v.2 k m _ k' x < v.1 ∧ f (aU v.2 k m _ k' x) = x
          rw [aU_n (by omega)]; exact h1 k' x hk' hx
        · show aU v.2 k m _ k x < v.1 ∧ f (aU v.2 k m _ k x) = x
          by_cases e : x = m
          · subst e; rw [aU_s]; exact hprev
          · rw [aU_n (by omega)]
            rcases List.mem_cons.mp hx with z | z
            · exact absurd z e
            · exact h2 x z
      · rw [if_neg hb]
        have hup : ∀ a, a < v.1 → va_up f v.1 m a = f a := fun a ha => by simp [va_up, show ¬ a = v.1 by omega]
        refine ⟨va_up f v.1 m, fun k' x hk' hx => ?_, fun x hx => ?_⟩
        · show aU v.2 k m _ k' x < v.1 + 1 ∧ va_up f v.1 m (aU v.2 k m _ k' x) = x
          rw [aU_n (by omega)]
          have := h1 k' x hk' hx
          rw [hup _ this.1]; exact ⟨by omega, this.2⟩
        · show aU v.2 k m _ k x < v.1 + 1 ∧ va_up f v.1 m (aU v.2 k m _ k x) = x
          by_cases e : x = m
          · subst e; rw [aU_s]; exact ⟨by omega, by simp [va_up]⟩
          · rw [aU_n (by omega)]
            rcases List.mem_cons.mp hx with z | z
            · exact absurd z e
            · have := h2 x z
              rw [hup _ this.1]; exact ⟨by omega, this.2⟩
    obtain ⟨f1, k1, k2⟩ := key
    obtain ⟨f', g1, g2⟩ := jVm_nt t (m :: d) (jVm s S k v m) f1 (fun x hx => hl x (List.mem_cons_of_mem _ hx)) k1 k2
    refine ⟨f', g1, fun x hx => g2 x ?_⟩
    rcases hx with z | z
    · rcases List.mem_cons.mp z with y | y
      · exact Or.inr (by rw [y]; exact List.mem_cons_self ..)
      · exact Or.inl y
    · exact Or.inr (List.mem_cons_of_mem _ z)
theorem jVS_nt (s : jN) (S : List (Nat × Nat)) : ∀ k, ∃ f, vNt s S k (jVS s S k) f
  | 0 => ⟨fun _ => 0, fun k' m h => absurd h (by omega)⟩
  | k + 1 => by
    obtain ⟨f, ih⟩ := jVS_nt s S k
    obtain ⟨f', g1, g2⟩ := jVm_nt (k := k) (jMem s (S.getD k (0, 0)).1) [] (jVS s S k) f (fun m hm => (jML_mem.mp hm).1) ih (fun m hm => by cases hm)
    refine ⟨f', fun k' m hk' hm => ?_⟩
    by_cases e : k' = k
    · subst e; exact g2 m (Or.inl hm)
    · exact g1 k' m (by omega) hm
theorem jV_inj {s : jN} {k k' m m' : Nat} (hk : k < (jS s).length) (hk' : k' < (jS s).length) (hm : m ∈ jMem s (jB s k)) (hm' : m' ∈ jMem s (jB s k')) (h : jV s k m = jV s k' m') : m = m' := by
  obtain ⟨f, hf⟩ := jVS_nt s (jS s) (jS s).length
  have h1 := (hf k m hk hm).2
  have h2 := (hf k' m' hk' hm').2
  rw [← h1, ← h2]
  exact congrArg f h
theorem eqOf_V {s : jN} {k m : Nat} (hk : k < (jS s).length) (hm : m ∈ jMem s (jB s k)) : eqOf s (jV s k m) = ((10000 * s.2.1 m : Nat) : Int) := by
  have hx : ∃ a, ∃ b, b < (jS s).length ∧ a ∈ jMem s (jB s b) ∧ jV s b a = jV s k m := ⟨m, k, hk, hm, rfl⟩
  have h : nOf s (jV s k m) = m := by
    unfold nOf
    rw [dif_pos hx]
    obtain ⟨b, h1, h2, h3⟩ := Classical.choose_spec hx
    exact jV_inj h1 hk h2 hm h3
  unfold eqOf
  rw [h]
theorem yP_V {s : jN} {r : jR} {w : jW} {k m : Nat} (hk : k < (jS s).length) (hm : m < s.1) (hon : jOn s m (jB s k) = true) (hn : jVn s ≤ 20) : yP s r w (jV s k m) = zV s r w (jV s k m) + zV s r w 20 * ((10000 * s.2.1 m : Nat) : Int) := by
  have hl := jV_lt hk hm hon
  unfold yP
  rw [if_pos hl, eqOf_V hk (jML_mem.mpr ⟨hm, hon⟩), zV_20 hn, zV_N hl]
theorem yP_hi {s : jN} {r : jR} {w : jW} {a : Nat} (hn : jVn s ≤ 20) (ha : 20 ≤ a) : yP s r w a = zV s r w a := by
  unfold yP; rw [if_neg (by omega)]
theorem p329 : (2 : Int) ^ 328 + 2 ^ 328 < 2 ^ 360 := by decide +kernel
theorem p360 : (2 : Int) ^ 360 < 2 ^ 400 := by decide +kernel
theorem nat360 {N : Int} (h : (N.natAbs : Int) < 2 ^ 360) : N.natAbs < 2 ^ 360 := by
  have : ((2 ^ 360 : Nat) : Int) = 2 ^ 360 := by decide +kernel
  omega
theorem yV_lt {s : jN} (h6 : jSix s) {r : jR} (hr : rOk r) (hg : rGood r) {w : jW} (hw : wOk w) (hn : jVn s ≤ 20) (a : Nat) {e : Nat} (he : e ≤ 127) : ((zV s r w a + zV s r w 20 * ((10000 * e : Nat) : Int)).natAbs : Int) < 2 ^ 360 := by
  have h1 := zV_b h6 hr hg hw hn a
  have h2 : zV s r w 20 * ((10000 * e : Nat) : Int) < 2 ^ 328 := by
    rw [zV_20 hn]; exact pow_264 (zD_lt h6 hr hg hw hn) (by omega) (by omega) (zD_pos hr hg hw)
  have h3 : 0 ≤ zV s r w 20 * ((10000 * e : Nat) : Int) := Int.mul_nonneg (by rw [zV_20 hn]; exact Int.le_of_lt (zD_pos hr hg hw)) (by omega)
  have h4 := p329
  generalize (2 : Int) ^ 328 = A at *
  generalize (2 : Int) ^ 360 = B at *
  omega
set_option maxHeartbeats 1000000 in
theorem ml_tell84 {I : Nat → Nat → Int32} {L : Nat → Nat → Int64} {R : Nat → Nat → Option Nat} (hR : aRf R) {X D g : Nat} {ng : Bool} (hx1 : X / g < 10 ^ 109) (hd1 : D / g < 10 ^ 109) {L1 : Nat → Nat → Int64} (h5 : hD L1 5 (X / g)) (h6 : hD L1 6 (D / g)) (hk : (∀ q j, ¬ (q = 191 ∧ 36 ≤ j) → L1 q j = L q j)) {l0 : List Nat} (hl0 : l0.length ≤ 1) {I1 : Nat → Nat → Int32} (hw : wtRep I1 l0) (hkI : wtK I I1) : aX mX11_tell aE0 (sh0, I1, L1, R) 84 [(0, .ref 159), (1, .int (bI ng))] [] 0 0 (fun ans h' => ∃ l I' L', h' = (sh0, I', L', R) ∧ ans = some (.int (nI l.length)) ∧ (∃ d1 d2, isDec d1 (X / g) ∧ isDec d2 (D / g) ∧ l = l0 ++ asc d1 ++ (if D / g = 1 then [] else 47 :: asc d2)) ∧ mtRep I' l ∧ wtK I I' ∧ (∀ q j, ¬ (q = 191 ∧ 36 ≤ j) → L' q j = L q j)) := by
  have hp9 : 10 ^ 109 < hPw 17 := by decide +kernel
  have hp10 := hPw_17
  have hp11 : 1 < hPw 18 := by decide +kernel
  refine aX_aload_n dX11_tell_84 rfl ?_
  refine aX_iconst (v := nI 5) dX11_tell_85 (by decide) ?_
  refine cV (As := [.int (nI (5))]) (st := []) dX11_tell_86 kX11_tell_304 s159 aEok0 rfl rfl (Nat.le_of_ble_eq_true rfl) (m_write hR (by decide) h5 (by omega) (by omega) hw) (fun ans' h' hq9 => ?_)
  obtain ⟨rfl, I2, d1, rfl, e1, e2, e3, e4⟩ := hq9
  refine ⟨rfl, ?_⟩
  have hl1 := isDec_len e1 hx1 (by decide)
  have hll : (l0 ++ asc d1).length = l0.length + d1.length := by rw [List.length_append, asc_len]
  refine aX_aload_n dX11_tell_89 rfl ?_
  refine aX_iconst (v := nI 2) dX11_tell_90 (by decide) ?_
  refine cV (As := [.int (nI (2))]) (st := []) dX11_tell_91 kX11_tell_279 s159 aEok0 rfl rfl (Nat.le_of_ble_eq_true rfl) (m_zero hR (by decide)) (fun ans' h' hq9 => ?_)
  obtain ⟨rfl, L2, rfl, g1, g2⟩ := hq9
  refine ⟨rfl, ?_⟩
  refine aX_aload_n dX11_tell_94 rfl ?_
  refine aX_get dX11_tell_95 lfX11_113 s159 (f159_40 hR) ?_
  refine aX_bipush (v := nI 36) dX11_tell_98 (by decide) ?_
  refine aX_lconst (v := lN 1) dX11_tell_100 rfl ?_
  refine nLast dX11_tell_101 s191 (by first | omega | exact Nat.lt_of_le_of_lt (Nat.mod_le _ _) (by omega)) (by decide) ?_
  obtain ⟨L3, hL3⟩ : ∃ y, y = (aU L2 191 36 (lN (1))) := ⟨_, rfl⟩
  rw [← hL3]
  have h23 : hD L3 2 1 := by rw [hL3]; exact hD_one g1
  have hk3 : ∀ q j, ¬ (q = 191 ∧ 36 ≤ j ∧ j < 54) → L3 q j = L1 q j := fun q j g => by rw [hL3, aU_n (by omega)]; exact g2 q j (by omega)
  have h69 : hD L3 6 (D / g) := fun i hi => (hk3 _ _ (by omega)).trans (h6 i hi)
  refine aX_aload_n dX11_tell_102 rfl ?_
  refine aX_bipush (v := nI 6) dX11_tell_103 (by decide) ?_
  refine aX_iconst (v := nI 2) dX11_tell_105 (by decide) ?_
  refine cVp (As := [.int (nI (6)), .int (nI (2))]) (st := []) (v := .int (hCp (D / g) 1)) dX11_tell_106 kX11_tell_265 s159 aEok0 rfl rfl (Nat.le_of_ble_eq_true rfl) (m_compare hR (by decide) (by decide) h69 h23 (by omega) (by omega)) ?_
  refine aX_if_eq (tgt := 139) dX11_tell_109 (by decide) (fun c1 => ?_) (fun c1 => ?_)
  · have h1e : D / g = 1 := hCp_e0.mp c1
    refine aX_aload_n dX11_tell_139 rfl ?_
    refine aX_get (v := .int (nI ((l0 ++ asc d1).length))) dX11_tell_140 lfX11_294 s159 (congrArg Value.int (e3.1)) ?_
    exact rI dX11_tell_143 rfl (⟨_, I2, L3, rfl, rfl, ⟨d1, [1], e1, by rw [h1e]; exact isDec_1, by rw [if_pos h1e, List.append_nil]⟩, wt_mt e3 (by omega), wtK_trans hkI e4, fun q j g => (hk3 q j (by omega)).trans (hk q j g)⟩)
  · have h1e : D / g ≠ 1 := fun z => c1 (hCp_e0.mpr z)
    refine aX_aload_n dX11_tell_112 rfl ?_
    refine aX_get dX11_tell_113 lfX11_119 s159 (f159_43 hR) ?_
    refine aX_aload_n dX11_tell_116 rfl ?_
    refine aX_get (v := .int (nI ((l0 ++ asc d1).length))) dX11_tell_117 lfX11_294 s159 (congrArg Value.int (e3.1)) ?_
    refine aX_bipush (v := nI 47) dX11_tell_120 (by decide) ?_
    refine nBast dX11_tell_122 s193 (by first | omega | exact Nat.lt_of_le_of_lt (Nat.mod_le _ _) (by omega)) (by decide) ?_
    refine aX_aload_n dX11_tell_123 rfl ?_
    refine aX_dup dX11_tell_124 rfl ?_
    refine aX_get (v := .int (nI ((l0 ++ asc d1).length))) dX11_tell_125 lfX11_294 s159 (congrArg Value.int (show (aU I2 193 ((l0 ++ asc d1).length) ((nI (47)).toInt8.toInt32)) 159 42 = nI (l0 ++ asc d1).length by rw [aU_n (by omega)]; exact e3.1)) ?_
    refine aX_iconst (v := nI 1) dX11_tell_128 (by decide) ?_
    refine nAdd dX11_tell_129 ?_
    refine pI dX11_tell_130 lfX11_294 (fun _ _ _ hq => by cases hq; exact Or.inl rfl) s159 rfl ?_
    have hbb : (nI 47).toInt8.toInt32 = nI 47 := b8 (by decide)
    rw [hbb]
    have hw3 := wt_put e3 (c := 47) (by decide)
    obtain ⟨I3, hI3⟩ : ∃ y, y = (aU (aU I2 193 ((l0 ++ asc d1).length) ((nI 47))) 159 42 (nI (((l0 ++ asc d1).length) + 1))) := ⟨_, rfl⟩
    rw [← hI3] at hw3 ⊢
    have hk3I : wtK I2 I3 := by rw [hI3]; exact wt_putK
    refine aX_aload_n dX11_tell_133 rfl ?_
    refine aX_bipush (v := nI 6) dX11_tell_134 (by decide) ?_
    refine cV (As := [.int (nI (6))]) (st := []) dX11_tell_136 kX11_tell_304 s159 aEok0 rfl rfl (Nat.le_of_ble_eq_true rfl) (m_write hR (by decide) h69 (by omega) (by rw [List.length_append, hll, List.length_singleton]; omega) hw3) (fun ans' h' hq9 => ?_)
    obtain ⟨rfl, I4, d2, rfl, e5, e6, e7, e8⟩ := hq9
    refine ⟨rfl, ?_⟩
    have hl2 := isDec_len e5 hd1 (by decide)
    have hll2 : (l0 ++ asc d1 ++ [47] ++ asc d2).length = l0.length + d1.length + 1 + d2.length := by rw [List.length_append, List.length_append, asc_len, hll, List.length_singleton]
    refine aX_aload_n dX11_tell_139 rfl ?_
    refine aX_get (v := .int (nI ((l0 ++ asc d1 ++ [47] ++ asc d2).length))) dX11_tell_140 lfX11_294 s159 (congrArg Value.int (e7.1)) ?_
    exact rI dX11_tell_143 rfl (⟨_, I4, L3, rfl, rfl, ⟨d1, d2, e1, e5, by rw [if_neg h1e, List.append_assoc (l0 ++ asc d1)]; rfl⟩, wt_mt e7 (by omega), wtK_trans (wtK_trans (wtK_trans hkI e4) hk3I) e8, fun q j g => (hk3 q j (by omega)).trans (hk q j g)⟩)
set_option maxHeartbeats 1000000 in
theorem m_tell {I : Nat → Nat → Int32} {L : Nat → Nat → Int64} {R : Nat → Nat → Option Nat} (hR : aRf R) {X D : Nat} (hX : hD L 0 X) (hDd : hD L 1 D) (hXl : X < 2 ^ 360) (hDl : D < 2 ^ 360) (hD0 : 0 < D) {ng : Bool} : aM mX11_tell [.ref 159, .int (bI ng)] (sh0, I, L, R) (fun ans h' => ∃ l I' L', h' = (sh0, I', L', R) ∧ ans = some (.int (nI l.length)) ∧ isTx l (ng && decide (0 < X)) (X / Nat.gcd X D) (D / Nat.gcd X D) ∧ mtRep I' l ∧ wtK I I' ∧ (∀ q j, ¬ (q = 191 ∧ 36 ≤ j) → L' q j = L q j)) := by
  have hp := hPw_360
  have hp2 := hPw_17
  have hg0 : 0 < Nat.gcd X D := Nat.gcd_pos_of_pos_right X hD0
  have hgl : Nat.gcd X D ≤ D := Nat.gcd_le_right X hD0
  have hq1 : X / Nat.gcd X D ≤ X := Nat.div_le_self _ _
  have hq2 : D / Nat.gcd X D ≤ D := Nat.div_le_self _ _
  have h109 := ten109
  refine aM_of plX11_tell (Nat.le_of_ble_eq_true rfl) ?_
  refine aX_aload_n dX11_tell_0 rfl ?_
  refine aX_iconst (v := nI 0) dX11_tell_1 (by decide) ?_
  refine pI dX11_tell_2 lfX11_294 (fun _ _ _ hq => by cases hq; exact Or.inl rfl) s159 rfl ?_
  refine aX_aload_n dX11_tell_5 rfl ?_
  refine aX_iconst (v := nI 2) dX11_tell_6 (by decide) ?_
  refine aX_iconst (v := nI 0) dX11_tell_7 (by decide) ?_
  refine cV (As := [.int (nI (2)), .int (nI (0))]) (st := []) dX11_tell_8 kX11_tell_272 s159 aEok0 rfl rfl (Nat.le_of_ble_eq_true rfl) (m_copy hR (by decide) (by decide) hX (by decide)) (fun ans' h' hq9 => ?_)
  obtain ⟨rfl, L1, rfl, e1, f1⟩ := hq9
  refine ⟨rfl, ?_⟩
  have k1 : (∀ q j, ¬ (q = 191 ∧ 36 ≤ j) → L1 q j = L q j) := fun q j g => f1 q j (by omega)
  refine aX_aload_n dX11_tell_11 rfl ?_
  refine aX_iconst (v := nI 3) dX11_tell_12 (by decide) ?_
  refine aX_iconst (v := nI 1) dX11_tell_13 (by decide) ?_
  refine cV (As := [.int (nI (3)), .int (nI (1))]) (st := []) dX11_tell_14 kX11_tell_272 s159 aEok0 rfl rfl (Nat.le_of_ble_eq_true rfl) (m_copy hR (by decide) (by decide) (hD_hK hDd (by decide) f1) (by decide)) (fun ans' h' hq9 => ?_)
  obtain ⟨rfl, L2, rfl, e2, f2⟩ := hq9
  refine ⟨rfl, ?_⟩
  have k2 : (∀ q j, ¬ (q = 191 ∧ 36 ≤ j) → L2 q j = L q j) := fun q j g => (f2 q j (by omega)).trans (k1 q j g)
  refine aX_aload_n dX11_tell_17 rfl ?_
  refine aX_iconst (v := nI 4) dX11_tell_18 (by decide) ?_
  refine aX_iconst (v := nI 2) dX11_tell_19 (by decide) ?_
  refine aX_iconst (v := nI 3) dX11_tell_20 (by decide) ?_
  refine cV (As := [.int (nI (4)), .int (nI (2)), .int (nI (3))]) (st := []) dX11_tell_21 kX11_tell_299 s159 aEok0 rfl rfl (Nat.le_of_ble_eq_true rfl) (m_divisor hR (hD_hK e1 (by decide) f2) e2 (by omega) (by omega)) (fun ans' h' hq9 => ?_)
  obtain ⟨rfl, L3, rfl, e3, f3⟩ := hq9
  refine ⟨rfl, ?_⟩
  have k3 : (∀ q j, ¬ (q = 191 ∧ 36 ≤ j) → L3 q j = L q j) := fun q j g => (f3 q j (by omega)).trans (k2 q j g)
  refine aX_aload_n dX11_tell_24 rfl ?_
  refine aX_iconst (v := nI 2) dX11_tell_25 (by decide) ?_
  refine aX_iconst (v := nI 0) dX11_tell_26 (by decide) ?_
  refine cV (As := [.int (nI (2)), .int (nI (0))]) (st := []) dX11_tell_27 kX11_tell_272 s159 aEok0 rfl rfl (Nat.le_of_ble_eq_true rfl) (m_copy hR (x := 2) (y := 0) (by decide) (by decide) (fun i hi => (k3 191 _ (by omega)).trans (hX i hi)) (by decide)) (fun ans' h' hq9 => ?_)
  obtain ⟨rfl, L4, rfl, e4, f4⟩ := hq9
  refine ⟨rfl, ?_⟩
  have k4 : (∀ q j, ¬ (q = 191 ∧ 36 ≤ j) → L4 q j = L q j) := fun q j g => (f4 q j (by omega)).trans (k3 q j g)
  refine aX_aload_n dX11_tell_30 rfl ?_
  refine aX_iconst (v := nI 5) dX11_tell_31 (by decide) ?_
  refine aX_iconst (v := nI 2) dX11_tell_32 (by decide) ?_
  refine aX_iconst (v := nI 4) dX11_tell_33 (by decide) ?_
  refine cV (As := [.int (nI (5)), .int (nI (2)), .int (nI (4))]) (st := []) dX11_tell_34 kX11_tell_302 s159 aEok0 rfl rfl (Nat.le_of_ble_eq_true rfl) (m_divide3 hR (by decide) (by decide) (by decide) (by decide) (by decide) (by decide) e4 (hD_hK e3 (by decide) f4) (by omega) (by omega) hg0) (fun ans' h' hq9 => ?_)
  obtain ⟨rfl, L5, rfl, e5, _, f5⟩ := hq9
  refine ⟨rfl, ?_⟩
  have k5 : (∀ q j, ¬ (q = 191 ∧ 36 ≤ j) → L5 q j = L q j) := fun q j g => (f5 q j (by omega)).trans (k4 q j g)
  have g5 : hD L5 4 (Nat.gcd X D) := fun i hi => (f5 191 _ (by omega)).trans (hD_hK e3 (by decide) f4 i hi)
  refine aX_aload_n dX11_tell_37 rfl ?_
  refine aX_iconst (v := nI 2) dX11_tell_38 (by decide) ?_
  refine aX_iconst (v := nI 1) dX11_tell_39 (by decide) ?_
  refine cV (As := [.int (nI (2)), .int (nI (1))]) (st := []) dX11_tell_40 kX11_tell_272 s159 aEok0 rfl rfl (Nat.le_of_ble_eq_true rfl) (m_copy hR (x := 2) (y := 1) (by decide) (by decide) (fun i hi => (k5 191 _ (by omega)).trans (hDd i hi)) (by decide)) (fun ans' h' hq9 => ?_)
  obtain ⟨rfl, L6, rfl, e6, f6⟩ := hq9
  refine ⟨rfl, ?_⟩
  have k6 : (∀ q j, ¬ (q = 191 ∧ 36 ≤ j) → L6 q j = L q j) := fun q j g => (f6 q j (by omega)).trans (k5 q j g)
  refine aX_aload_n dX11_tell_43 rfl ?_
  refine aX_bipush (v := nI 6) dX11_tell_44 (by decide) ?_
  refine aX_iconst (v := nI 2) dX11_tell_46 (by decide) ?_
  refine aX_iconst (v := nI 4) dX11_tell_47 (by decide) ?_
  refine cV (As := [.int (nI (6)), .int (nI (2)), .int (nI (4))]) (st := []) dX11_tell_48 kX11_tell_302 s159 aEok0 rfl rfl (Nat.le_of_ble_eq_true rfl) (m_divide3 hR (by decide) (by decide) (by decide) (by decide) (by decide) (by decide) e6 (hD_hK g5 (by decide) f6) (by omega) (by omega) hg0) (fun ans' h' hq9 => ?_)
  obtain ⟨rfl, L7, rfl, e7, _, f7⟩ := hq9
  refine ⟨rfl, ?_⟩
  have k7 : (∀ q j, ¬ (q = 191 ∧ 36 ≤ j) → L7 q j = L q j) := fun q j g => (f7 q j (by omega)).trans (k6 q j g)
  have h57 : hD L7 5 (X / Nat.gcd X D) := fun i hi => (f7 191 _ (by omega)).trans (hD_hK e5 (by decide) f6 i hi)
  refine aX_iload_n dX11_tell_51 rfl ?_
  refine bEq (tgt := 84) dX11_tell_52 (by decide) (fun c1 => ?_) (fun c1 => ?_)
  · have hng : (ng && decide (0 < X)) = false := by rw [c1]; rfl
    refine aX_mono (ml_tell84 hR (X := X) (D := D) (g := Nat.gcd X D) (ng := ng) (by omega) (by omega) h57 e7 k7 (l0 := []) (by decide) (I := I) ⟨by rw [aU_s]; rfl, fun j c hj => by cases hj⟩ (fun q j g1 g2 => by rw [aU_n (by omega)])) (fun ans5 h5 hq5 => ?_)
    obtain ⟨l, I5, L8, q1, q2, ⟨d1, d2, q3, q4, q5⟩, q6, q7, q8⟩ := hq5
    exact ⟨l, I5, L8, q1, q2, ⟨d1, d2, q3, q4, by rw [hng]; exact q5⟩, q6, q7, q8⟩
  · have hngt := c1
    refine aX_aload_n dX11_tell_55 rfl ?_
    refine aX_iconst (v := nI 5) dX11_tell_56 (by decide) ?_
    refine cVp (As := [.int (nI (5))]) (st := []) (v := .int (bI (decide (X / Nat.gcd X D = 0)))) dX11_tell_57 kX11_tell_255 s159 aEok0 rfl rfl (Nat.le_of_ble_eq_true rfl) (m_isZero hR (by decide) h57 (by omega)) ?_
    refine bNe (tgt := 84) dX11_tell_60 (by decide) (fun c2 => ?_) (fun c2 => ?_)
    · have hng : (ng && decide (0 < X)) = false := by
        have h0 : X = 0 := Nat.eq_zero_of_not_pos (fun z => absurd (Nat.div_pos (Nat.le_of_dvd z (Nat.gcd_dvd_left X D)) hg0) (by rw [of_decide_eq_true c2]; decide))
        rw [decide_eq_false (show ¬ 0 < X by omega), Bool.and_false]
      refine aX_mono (ml_tell84 hR (X := X) (D := D) (g := Nat.gcd X D) (ng := ng) (by omega) (by omega) h57 e7 k7 (l0 := []) (by decide) (I := I) ⟨by rw [aU_s]; rfl, fun j c hj => by cases hj⟩ (fun q j g1 g2 => by rw [aU_n (by omega)])) (fun ans5 h5 hq5 => ?_)
      obtain ⟨l, I5, L8, q1, q2, ⟨d1, d2, q3, q4, q5⟩, q6, q7, q8⟩ := hq5
      exact ⟨l, I5, L8, q1, q2, ⟨d1, d2, q3, q4, by rw [hng]; exact q5⟩, q6, q7, q8⟩
    · have hng : (ng && decide (0 < X)) = true := by
        have h0 : 0 < X := Nat.pos_of_ne_zero (fun z => (of_decide_eq_false c2) (by rw [z, Nat.zero_div]))
        rw [hngt, decide_eq_true h0]; rfl
      refine aX_aload_n dX11_tell_63 rfl ?_
      refine aX_get dX11_tell_64 lfX11_119 s159 (f159_43 hR) ?_
      refine aX_aload_n dX11_tell_67 rfl ?_
      refine aX_get (v := .int (nI (0))) dX11_tell_68 lfX11_294 s159 (congrArg Value.int (show (aU I 159 42 (nI (0))) 159 42 = nI 0 by rw [aU_s])) ?_
      refine aX_bipush (v := nI 45) dX11_tell_71 (by decide) ?_
      refine nBast dX11_tell_73 s193 (by first | omega | exact Nat.lt_of_le_of_lt (Nat.mod_le _ _) (by omega)) (by decide) ?_
      refine aX_aload_n dX11_tell_74 rfl ?_
      refine aX_dup dX11_tell_75 rfl ?_
      refine aX_get (v := .int (nI (0))) dX11_tell_76 lfX11_294 s159 (congrArg Value.int (show (aU (aU I 159 42 (nI (0))) 193 0 ((nI (45)).toInt8.toInt32)) 159 42 = nI 0 by rw [aU_n (by omega), aU_s])) ?_
      refine aX_iconst (v := nI 1) dX11_tell_79 (by decide) ?_
      refine nAdd dX11_tell_80 ?_
      refine pI dX11_tell_81 lfX11_294 (fun _ _ _ hq => by cases hq; exact Or.inl rfl) s159 rfl ?_
      have hbb : (nI 45).toInt8.toInt32 = nI 45 := b8 (by decide)
      rw [hbb]
      refine aX_mono (ml_tell84 hR (X := X) (D := D) (g := Nat.gcd X D) (ng := ng) (by omega) (by omega) h57 e7 k7 (l0 := [45]) (by decide) (I := I) (wt_put (I := aU I 159 42 (nI 0)) (l := []) (c := 45) ⟨by rw [aU_s]; rfl, fun j c hj => by cases hj⟩ (by decide)) (fun q j g1 g2 => by rw [aU_n (by omega), aU_n (by omega), aU_n (by omega)])) (fun ans5 h5 hq5 => ?_)
      obtain ⟨l, I5, L8, q1, q2, ⟨d1, d2, q3, q4, q5⟩, q6, q7, q8⟩ := hq5
      exact ⟨l, I5, L8, q1, q2, ⟨d1, d2, q3, q4, by rw [hng]; exact q5⟩, q6, q7, q8⟩
set_option maxHeartbeats 1000000 in
theorem m10_place {I : Nat → Nat → Int32} {L : Nat → Nat → Int64} {R : Nat → Nat → Option Nat} (hR : aRf R) {z : jZ} (hz : mmRep I L z) {x y : Int32} : aM mX11_place [.ref 159, .int x, .int y] (sh0, I, L, R) (fun ans h' => ans = some (.int (oPlace z x y).1) ∧ ∃ I' L', h' = (sh0, I', L', R) ∧ mmRep I' L' (oPlace z x y).2 ∧ mmK I I' ∧ mmKL L L') := by
  obtain ⟨hs, ho, h6, hl, hg, hw, hS, hcn, h12, h13, hpc, hcz, hpz, hpr, htx⟩ := id hz
  have hn := ho.1
  have hSl := jS_len z.1
  refine aM_of plX11_place (Nat.le_of_ble_eq_true rfl) ?_
  refine aX_aload_n dX11_place_0 rfl ?_
  refine aX_iload_n dX11_place_1 rfl ?_
  refine aX_iload_n dX11_place_2 rfl ?_
  refine cVp (As := [.int (x), .int (y)]) (st := []) (v := .int (bI (jPart z.1 x y))) dX11_place_3 kX11_place_192 s159 aEok0 rfl rfl (Nat.le_of_ble_eq_true rfl) (m_isSounding hR hz) ?_
  refine bNe (tgt := 11) dX11_place_6 (by decide) (fun c1 => ?_) (fun c1 => ?_)
  · obtain ⟨k, m, hk, hm, rfl, rfl, hon⟩ := jPart_t2 hn c1
    obtain ⟨q, hq, hqb⟩ := jQ hk
    refine aX_aload_n dX11_place_11 rfl ?_
    refine aX_get (v := .int (bI (z.2.2.2.2.1))) dX11_place_12 lfX11_147 s159 (congrArg Value.int (h13)) ?_
    refine bNe (tgt := 21) dX11_place_15 (by decide) (fun c2 => ?_) (fun c2 => ?_)
    · obtain ⟨p1, p2, m9, p3, p4, p5⟩ := hpz c2
      have hDp : 0 < zV z.1 z.2.1 z.2.2.1 20 := by rw [zV_20 p1]; exact zD_pos hl.1 hg hw.1
      have hDb : ((zV z.1 z.2.1 z.2.2.1 20).natAbs : Int) < 2 ^ 360 := by
        have a1 := zV_b h6 hl.1 hg hw.1 p1 20
        have a2 := p329
        generalize (2 : Int) ^ 328 = A at *
        generalize (2 : Int) ^ 360 = B at *
        omega
      have h400 := p360
      have hvl := jV_lt hk hm hon
      have hkm := (ho.2 m hm).1
      obtain ⟨Y, hY⟩ : ∃ Y, Y = zV z.1 z.2.1 z.2.2.1 (jV z.1 k m) + zV z.1 z.2.1 z.2.2.1 20 * ((10000 * z.1.2.1 m : Nat) : Int) := ⟨_, rfl⟩
      have hYb : (Y.natAbs : Int) < 2 ^ 360 := by rw [hY]; exact yV_lt h6 hl.1 hg hw.1 p1 _ hkm
      have hfv : ∀ k', k' < 14 → ∃ v : Nat, L 189 (22 * k' + jV z.1 k m) = lN v ∧ v < m9 k' ∧ cg (m9 k') (v : Int) Y := fun k' hk' => by
        have := p5 k' hk' (jV z.1 k m) (Or.inl hvl)
        rw [yP_V hk hm hon p1, ← hY] at this; exact this
      have hfd : ∀ k', k' < 14 → ∃ v : Nat, L 189 (22 * k' + 20) = lN v ∧ v < m9 k' ∧ cg (m9 k') (v : Int) (zV z.1 z.2.1 z.2.2.1 20) := fun k' hk' => by
        have := p5 k' hk' 20 (Or.inr (Or.inl rfl))
        rw [yP_hi p1 (Nat.le_refl _)] at this; exact this
      refine aX_aload_n dX11_place_21 rfl ?_
      refine aX_aload_n dX11_place_22 rfl ?_
      refine aX_aload_n dX11_place_23 rfl ?_
      refine aX_get dX11_place_24 lfX11_69 s159 (f159_22 hR) ?_
      refine aX_bipush (v := nI 16) dX11_place_27 (by decide) ?_
      refine aX_iload_n dX11_place_29 rfl ?_
      refine nMul dX11_place_30 ?_
      refine aX_iload_n dX11_place_31 rfl ?_
      refine nAdd dX11_place_32 ?_
      refine nIald (v := nI (jV z.1 k m)) dX11_place_33 s177 (by first | omega | exact Nat.lt_of_le_of_lt (Nat.mod_le _ _) (by omega)) (by decide) (hcn.2.1 k q m hq (jML_mem.mpr ⟨hm, by rw [hqb]; exact hon⟩)) ?_
      refine cV (As := [.int (nI (jV z.1 k m))]) (st := [.ref 159]) dX11_place_34 kX11_place_310 s159 aEok0 rfl rfl (Nat.le_of_ble_eq_true rfl) (m_fraction hR (by omega) (m := m9) ⟨p3, p4⟩ hfv hfd (by omega) (by omega) hDp) (fun ans' h' hq9 => ?_)
      obtain ⟨rfl, L2, rfl, g1, g2, g3⟩ := hq9
      refine ⟨rfl, ?_⟩
      have gk : ∀ q j, 187 ≤ q ∧ q ≤ 189 → L2 q j = L q j := fun q j g => g3 q j (by omega) (by omega)
      refine cV (As := [.int (bI (decide (Y < 0)))]) (st := []) dX11_place_37 kX11_place_313 s159 aEok0 rfl rfl (Nat.le_of_ble_eq_true rfl) (m_tell hR g1 g2 (nat360 hYb) (nat360 hDb) (by omega) (ng := decide (Y < 0))) (fun ans' h' hq9 => ?_)
      obtain ⟨l, I5, L5, rfl, rfl, t1, t2, t3, t4⟩ := hq9
      refine ⟨rfl, ?_⟩
      have hL5 : ∀ q j, 187 ≤ q ∧ q ≤ 189 → L5 q j = L q j := fun q j g => (t4 q j (by omega)).trans (gk q j g)
      exact rI dX11_place_40 rfl (by
            have hov : oPlace z (nI k) (nI m) = oTxt z Y (zV z.1 z.2.1 z.2.2.1 20) := by unfold oPlace; rw [if_pos c1, if_pos c2]; simp only [nI_clamp (show k < 2 ^ 31 by omega), nI_clamp (show m < 2 ^ 31 by omega), hY]
            have t1' : isTx l (decide (Y < 0)) (Y.natAbs / Nat.gcd Y.natAbs (zV z.1 z.2.1 z.2.2.1 20).natAbs) ((zV z.1 z.2.1 z.2.2.1 20).natAbs / Nat.gcd Y.natAbs (zV z.1 z.2.1 z.2.2.1 20).natAbs) := by
              rw [show decide (Y < 0) = (decide (Y < 0) && decide (0 < Y.natAbs)) by
                by_cases e : Y < 0
                · rw [decide_eq_true e, decide_eq_true (show 0 < Y.natAbs by omega)]; rfl
                · rw [decide_eq_false e]; rfl]
              exact t1
            rw [hov]
            have htx9 := txOf_eq t1'
            refine ⟨by rw [show (oTxt z Y (zV z.1 z.2.1 z.2.2.1 20)).1 = nI l.length by show nI (txOf _ _).length = _; rw [htx9]], I5, L5, rfl, ?_, fun q j g => t3 q j (by omega) (by omega), fun q j g => (t4 q j (by omega)).trans (g3 q j (by omega) (by omega))⟩
            show mmRep I5 L5 (z.1, z.2.1, z.2.2.1, z.2.2.2.1, z.2.2.2.2.1, txOf _ _)
            rw [htx9]
            exact mmRep_text hz t3 hL5 t2)
    · refine aX_bipush (v := (-2)) dX11_place_18 (by decide) ?_
      exact rI dX11_place_20 rfl (by rw [show oPlace z (nI k) (nI m) = (-2, z) by unfold oPlace; rw [if_pos c1, if_neg (by simp [c2])]]; exact ⟨rfl, I, L, rfl, hz, fun _ _ _ => rfl, fun _ _ _ => rfl⟩)
  · refine aX_iconst (v := (-1)) dX11_place_9 (by decide) ?_
    exact rI dX11_place_10 rfl (by rw [show oPlace z x y = (-1, z) by unfold oPlace; rw [if_neg (by simp [c1])]]; exact ⟨rfl, I, L, rfl, hz, fun _ _ _ => rfl, fun _ _ _ => rfl⟩)
set_option maxHeartbeats 1000000 in
theorem m10_energy {I : Nat → Nat → Int32} {L : Nat → Nat → Int64} {R : Nat → Nat → Option Nat} (hR : aRf R) {z : jZ} (hz : mmRep I L z) : aM mX11_energy [.ref 159] (sh0, I, L, R) (fun ans h' => ans = some (.int (oEnergy z).1) ∧ ∃ I' L', h' = (sh0, I', L', R) ∧ mmRep I' L' (oEnergy z).2 ∧ mmK I I' ∧ mmKL L L') := by
  obtain ⟨hs, ho, h6, hl, hg, hw, hS, hcn, h12, h13, hpc, hcz, hpz, hpr, htx⟩ := id hz
  have hn := ho.1
  have hSl := jS_len z.1
  refine aM_of plX11_energy (Nat.le_of_ble_eq_true rfl) ?_
  refine aX_aload_n dX11_energy_0 rfl ?_
  refine aX_get (v := .int (bI (z.2.2.2.2.1))) dX11_energy_1 lfX11_147 s159 (congrArg Value.int (h13)) ?_
  refine bEq (tgt := 20) dX11_energy_4 (by decide) (fun c1 => ?_) (fun c1 => ?_)
  · refine aX_bipush (v := (-2)) dX11_energy_20 (by decide) ?_
    exact rI dX11_energy_22 rfl (by rw [show oEnergy z = (-2, z) by unfold oEnergy; rw [if_neg (by simp [c1])]]; exact ⟨rfl, I, L, rfl, hz, fun _ _ _ => rfl, fun _ _ _ => rfl⟩)
  · obtain ⟨p1, p2, m9, p3, p4, p5⟩ := hpz c1
    have hDp : 0 < zV z.1 z.2.1 z.2.2.1 20 := by rw [zV_20 p1]; exact zD_pos hl.1 hg hw.1
    have hDb : ((zV z.1 z.2.1 z.2.2.1 20).natAbs : Int) < 2 ^ 360 := by
      have a1 := zV_b h6 hl.1 hg hw.1 p1 20
      have a2 := p329
      generalize (2 : Int) ^ 328 = A at *
      generalize (2 : Int) ^ 360 = B at *
      omega
    have h400 := p360
    obtain ⟨Y, hY⟩ : ∃ Y, Y = zV z.1 z.2.1 z.2.2.1 21 := ⟨_, rfl⟩
    have hYb : (Y.natAbs : Int) < 2 ^ 360 := by
      rw [hY]
      have a1 := zV_b h6 hl.1 hg hw.1 p1 21
      have a2 := p329
      generalize (2 : Int) ^ 328 = A at *
      generalize (2 : Int) ^ 360 = B at *
      omega
    have hfv : ∀ k', k' < 14 → ∃ v : Nat, L 189 (22 * k' + 21) = lN v ∧ v < m9 k' ∧ cg (m9 k') (v : Int) Y := fun k' hk' => by
      have := p5 k' hk' 21 (Or.inr (Or.inr rfl))
      rw [yP_hi p1 (by decide), ← hY] at this; exact this
    have hfd : ∀ k', k' < 14 → ∃ v : Nat, L 189 (22 * k' + 20) = lN v ∧ v < m9 k' ∧ cg (m9 k') (v : Int) (zV z.1 z.2.1 z.2.2.1 20) := fun k' hk' => by
      have := p5 k' hk' 20 (Or.inr (Or.inl rfl))
      rw [yP_hi p1 (Nat.le_refl _)] at this; exact this
    refine aX_aload_n dX11_energy_7 rfl ?_
    refine aX_aload_n dX11_energy_8 rfl ?_
    refine aX_bipush (v := nI 21) dX11_energy_9 (by decide) ?_
    refine cV (As := [.int (nI (21))]) (st := [.ref 159]) dX11_energy_11 kX11_energy_310 s159 aEok0 rfl rfl (Nat.le_of_ble_eq_true rfl) (m_fraction hR (by omega) (m := m9) ⟨p3, p4⟩ hfv hfd (by omega) (by omega) hDp) (fun ans' h' hq9 => ?_)
    obtain ⟨rfl, L2, rfl, g1, g2, g3⟩ := hq9
    refine ⟨rfl, ?_⟩
    have gk : ∀ q j, 187 ≤ q ∧ q ≤ 189 → L2 q j = L q j := fun q j g => g3 q j (by omega) (by omega)
    refine cV (As := [.int (bI (decide (Y < 0)))]) (st := []) dX11_energy_14 kX11_energy_313 s159 aEok0 rfl rfl (Nat.le_of_ble_eq_true rfl) (m_tell hR g1 g2 (nat360 hYb) (nat360 hDb) (by omega) (ng := decide (Y < 0))) (fun ans' h' hq9 => ?_)
    obtain ⟨l, I5, L5, rfl, rfl, t1, t2, t3, t4⟩ := hq9
    refine ⟨rfl, ?_⟩
    have hL5 : ∀ q j, 187 ≤ q ∧ q ≤ 189 → L5 q j = L q j := fun q j g => (t4 q j (by omega)).trans (gk q j g)
    refine aX_goto (tgt := 22) dX11_energy_17 (by decide) ?_
    exact rI dX11_energy_22 rfl (by
          have hov : oEnergy z = oTxt z Y (zV z.1 z.2.1 z.2.2.1 20) := by unfold oEnergy; rw [if_pos c1, hY]
          have t1' : isTx l (decide (Y < 0)) (Y.natAbs / Nat.gcd Y.natAbs (zV z.1 z.2.1 z.2.2.1 20).natAbs) ((zV z.1 z.2.1 z.2.2.1 20).natAbs / Nat.gcd Y.natAbs (zV z.1 z.2.1 z.2.2.1 20).natAbs) := by
            rw [show decide (Y < 0) = (decide (Y < 0) && decide (0 < Y.natAbs)) by
              by_cases e : Y < 0
              · rw [decide_eq_true e, decide_eq_true (show 0 < Y.natAbs by omega)]; rfl
              · rw [decide_eq_false e]; rfl]
            exact t1
          rw [hov]
          have htx9 := txOf_eq t1'
          refine ⟨by rw [show (oTxt z Y (zV z.1 z.2.1 z.2.2.1 20)).1 = nI l.length by show nI (txOf _ _).length = _; rw [htx9]], I5, L5, rfl, ?_, fun q j g => t3 q j (by omega) (by omega), fun q j g => (t4 q j (by omega)).trans (g3 q j (by omega) (by omega))⟩
          show mmRep I5 L5 (z.1, z.2.1, z.2.2.1, z.2.2.2.1, z.2.2.2.2.1, txOf _ _)
          rw [htx9]
          exact mmRep_text hz t3 hL5 t2)
