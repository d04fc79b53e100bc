/-! THE REFERENCE'S STATE -/
def wit (k : Nat) : Nat := ([2147483647, 2147483629, 2147483587, 2147483579, 2147483563, 2147483549, 2147483543, 2147483497, 2147483489, 2147483477, 2147483423, 2147483399, 2147483353, 2147483323, 2147483269, 2147483249, 2147483237, 2147483179, 2147483171, 2147483137, 2147483123, 2147483077, 2147483069, 2147483059] : List Nat).getD k 0
noncomputable def nOf (s : jN) (x : Nat) : Nat := @dite Nat (∃ m, ∃ k, k < (jS s).length ∧ m ∈ jMem s (jB s k) ∧ jV s k m = x) (Classical.propDecidable _) (fun h => Classical.choose h) (fun _ => 0)
noncomputable def eqOf (s : jN) (x : Nat) : Int := ((10000 * s.2.1 (nOf s x) : Nat) : Int)
noncomputable def yP (s : jN) (r : jR) (w : jW) (a : Nat) : Int := if a < jVn s then zN s r (jChs s r w) w a + zD s r (jChs s r w) w * eqOf s a else zV s r w a
def resRep (L : Nat → Nat → Int64) (s : jN) (r : jR) (w : jW) : Prop := ∃ m : Nat → Nat, (∀ k, k < 14 → L 188 k = lN (m k) ∧ isP (m k) ∧ 1073741824 < m k ∧ m k < 2147483648) ∧ (∀ i j, i < 14 → j < 14 → m i = m j → i = j) ∧ ∀ k, k < 14 → ∀ a, (a < jVn s ∨ a = 20 ∨ a = 21) → ∃ v : Nat, L 189 (22 * k + a) = lN v ∧ v < m k ∧ cg (m k) (v : Int) (yP s r w a)
def prRep (I : Nat → Nat → Int32) (L : Nat → Nat → Int64) : Prop := ∃ (pc : Nat) (P : Nat → Nat), I 159 34 = nI pc ∧ pc ≤ 22 ∧ (∀ k, k < pc → L 187 k = lN (P k) ∧ isP (P k) ∧ P k % 2 = 1 ∧ wit k ≤ P k ∧ P k < 2147483648) ∧ ∀ k, k + 1 < pc → P (k + 1) < P k
def mtRep (I : Nat → Nat → Int32) (l : List Nat) : Prop := I 159 42 = nI l.length ∧ l.length ≤ 256 ∧ ∀ j c, l[j]? = some c → I 193 j = nI c ∧ c < 128
def mwRep (I : Nat → Nat → Int32) (w : jW) : Prop := wOk w ∧ ∀ i, i < 5 → I 170 i = nI (w i)
def mmRep (I : Nat → Nat → Int32) (L : Nat → Nat → Int64) (z : jZ) : Prop := mnRep I z.1 ∧ jOk z.1 ∧ jSix z.1 ∧ mlRep I z.2.1 ∧ rGood z.2.1 ∧ mwRep I z.2.2.1 ∧ msRep I z.1 (jS z.1) ∧ mcRep I z.1 z.2.1 ∧ I 159 12 = bI z.2.2.2.1 ∧ I 159 13 = bI z.2.2.2.2.1 ∧ (z.2.2.2.2.1 = true → z.2.2.2.1 = true) ∧ (z.2.2.2.1 = true → czOk z.1 z.2.1 ∧ ∀ k, k < (jS z.1).length → I 179 k = nI (jChs z.1 z.2.1 z.2.2.1 k)) ∧ (z.2.2.2.2.1 = true → jVn z.1 ≤ 20 ∧ I 159 32 = nI (jLo z.1 z.2.1 (jChs z.1 z.2.1 z.2.2.1) z.2.2.1) ∧ resRep L z.1 z.2.1 z.2.2.1) ∧ prRep I L ∧ mtRep I z.2.2.2.2.2
def mmK (I I' : Nat → Nat → Int32) : Prop := ∀ q j, q < 159 → I' q j = I q j
def mmKL (L L' : Nat → Nat → Int64) : Prop := ∀ q j, q < 159 → L' q j = L q j
theorem mwRep_of {I I' : Nat → Nat → Int32} {w : jW} (k : ∀ j, I' 170 j = I 170 j) (h : mwRep I w) : mwRep I' w := ⟨h.1, fun i hi => (k i).trans (h.2 i hi)⟩
theorem mtRep_of {I I' : Nat → Nat → Int32} {l : List Nat} (k : ∀ q j, (q = 159 ∧ j = 42) ∨ q = 193 → I' q j = I q j) (h : mtRep I l) : mtRep I' l := ⟨(k 159 42 (by omega)).trans h.1, h.2.1, fun j c hj => ⟨(k 193 j (by omega)).trans (h.2.2 j c hj).1, (h.2.2 j c hj).2⟩⟩
theorem prRep_of {I I' : Nat → Nat → Int32} {L L' : Nat → Nat → Int64} (k : I' 159 34 = I 159 34) (kl : ∀ j, L' 187 j = L 187 j) (h : prRep I L) : prRep I' L' := by
  obtain ⟨pc, P, h1, h2, h3, h4⟩ := h
  exact ⟨pc, P, k.trans h1, h2, fun i hi => ⟨(kl i).trans (h3 i hi).1, (h3 i hi).2⟩, h4⟩
theorem mmRep_new {I I' : Nat → Nat → Int32} {L : Nat → Nat → Int64} {s : jN} {r : jR} {w : jW} {tx : List Nat} (ho : jOk s) (h6 : jSix s) (hg : rGood r) (hw : mwRep I w) (hp : prRep I L) (ht : mtRep I tx) (h1 : mnRep I' s) (h2 : msRep I' s (jS s)) (h3 : mlRep I' r) (h4 : mcRep I' s r) (h5 : I' 159 12 = bI false) (h7 : I' 159 13 = bI false) (hk : dvK I I') : mmRep I' L (s, r, w, false, false, tx) :=
  ⟨h1, ho, h6, h3, hg, mwRep_of (fun j => hk 170 j (by omega) (by omega)) hw, h2, h4, h5, h7, fun g => g, fun g => absurd g Bool.false_ne_true, fun g => absurd g Bool.false_ne_true, prRep_of (hk 159 34 (by omega) (by omega)) (fun _ => rfl) hp, mtRep_of (fun q j g => hk q j (by omega) (by omega)) ht⟩
def mmSame (I I' : Nat → Nat → Int32) (L L' : Nat → Nat → Int64) : Prop := (∀ q j, ((q = 159 ∧ (j = 0 ∨ j = 12 ∨ j = 13 ∨ j = 14 ∨ j = 21 ∨ j = 32 ∨ j = 34 ∨ j = 42)) ∨ (160 ≤ q ∧ q ≤ 177) ∨ q = 179 ∨ q = 193) → I' q j = I q j) ∧ ∀ q j, (187 ≤ q ∧ q ≤ 189) → L' q j = L q j
theorem mcRep_of {I I' : Nat → Nat → Int32} {s : jN} {r : jR} (h : ∀ q j, (q = 159 ∧ j = 21) ∨ q = 176 ∨ q = 177 → I' q j = I q j) (hc : mcRep I s r) : mcRep I' s r := ⟨(h 159 21 (by omega)).trans hc.1, fun k q m a b => (h 177 _ (by omega)).trans (hc.2.1 k q m a b), fun k q a => (h 176 k (by omega)).trans (hc.2.2 k q a)⟩
theorem mmRep_same {I I' : Nat → Nat → Int32} {L L' : Nat → Nat → Int64} {z : jZ} (h : mmSame I I' L L') (hz : mmRep I L z) : mmRep I' L' z := by
  obtain ⟨a1, a2, a3, a4, a5, a6, a7, a8, a9, a10, a11, a12, a13, a14, a15⟩ := hz
  obtain ⟨h, hL⟩ := h
  refine ⟨mnRep_of (fun q j g => h q j (by omega)) a1, a2, a3, mlRep_of (fun q j _ _ => h q j (by omega)) a4, a5, mwRep_of (fun j => h 170 j (by omega)) a6, msRep_of (fun q j g => h q j (by omega)) a7, mcRep_of (fun q j g => h q j (by omega)) a8, (h 159 12 (by omega)).trans a9, (h 159 13 (by omega)).trans a10, a11, fun g => ⟨(a12 g).1, fun k hk => (h 179 k (by omega)).trans ((a12 g).2 k hk)⟩, fun g => ?_, prRep_of (h 159 34 (by omega)) (fun j => hL 187 j (by omega)) a14, mtRep_of (fun q j g => h q j (by omega)) a15⟩
  obtain ⟨b1, b2, m, b3, b4, b5⟩ := a13 g
  exact ⟨b1, (h 159 32 (by omega)).trans b2, m, fun k hk => ⟨(hL 188 k (by omega)).trans (b3 k hk).1, (b3 k hk).2⟩, b4, fun k hk a ha => by
    obtain ⟨v, c1, c2⟩ := b5 k hk a ha
    exact ⟨v, (hL 189 _ (by omega)).trans c1, c2⟩⟩
theorem isIn_lt {x : Int32} {a : Nat} (ha : a < 2 ^ 31) : (decide (nI 0 ≤ x) && decide (x ≤ nI a)) = true ↔ ∃ j, j ≤ a ∧ x = nI j := by
  simp only [Bool.and_eq_true, decide_eq_true_eq]
  constructor
  · rintro ⟨h1, h2⟩
    obtain ⟨j, hj, rfl⟩ := nI_of (x := x) (Int32.not_lt.mpr h1)
    exact ⟨j, (nI_leI hj ha).mp h2, rfl⟩
  · rintro ⟨j, hj, rfl⟩
    exact ⟨nI_pos' (by omega), (nI_leI (by omega) ha).mpr hj⟩
theorem jIx_isIn {x : Int32} {a : Nat} (ha : a + 1 < 2 ^ 31) : (decide (nI 0 ≤ x) && decide (x ≤ nI a)) = jIx x (a + 1) := by
  rw [Bool.eq_iff_iff, isIn_lt (by omega)]
  constructor
  · rintro ⟨j, hj, rfl⟩
    rw [jIx_nI (by omega) ha]; simp; omega
  · intro h
    obtain ⟨j, hj, rfl⟩ := jIx_t ha h
    exact ⟨j, by omega, rfl⟩
set_option maxHeartbeats 1000000 in
theorem m10_sets {I : Nat → Nat → Int32} {L : Nat → Nat → Int64} {R : Nat → Nat → Option Nat} (hR : aRf R) {z : jZ} (hz : mmRep I L z) : aM mX11_sets [.ref 159] (sh0, I, L, R) (fun ans h' => ans = some (.int (nI (jS z.1).length)) ∧ ∃ I' L', h' = (sh0, I', L', R) ∧ mmRep I' L' z ∧ mmK I I' ∧ mmKL L L') := by
  obtain ⟨hs, ho, h6, hl, hg, hw, hS, hcn, h12, h13, hpc, hcz, hpz, hpr, htx⟩ := id hz
  have hn := ho.1
  have hSl := jS_len z.1
  refine aM_of plX11_sets (Nat.le_of_ble_eq_true rfl) ?_
  refine aX_aload_n dX11_sets_0 rfl ?_
  refine aX_get (v := .int (nI ((jS z.1).length))) dX11_sets_1 lfX11_154 s159 (congrArg Value.int (hS.1)) ?_
  exact rI dX11_sets_4 rfl (⟨rfl, I, L, rfl, hz, fun _ _ _ => rfl, fun _ _ _ => rfl⟩)
set_option maxHeartbeats 1000000 in
theorem m10_clear {I : Nat → Nat → Int32} {L : Nat → Nat → Int64} {R : Nat → Nat → Option Nat} (hR : aRf R) {z : jZ} (hz : mmRep I L z) : aM mX11_clear [.ref 159] (sh0, I, L, R) (fun ans h' => ans = some (.int (oClear z).1) ∧ ∃ I' L', h' = (sh0, I', L', R) ∧ mmRep I' L' (oClear z).2 ∧ mmK I I' ∧ mmKL L L') := by
  obtain ⟨hs, ho, h6, hl, hg, hw, hS, hcn, h12, h13, hpc, hcz, hpz, hpr, htx⟩ := id hz
  have hn := ho.1
  have hSl := jS_len z.1
  refine aM_of plX11_clear (Nat.le_of_ble_eq_true rfl) ?_
  refine aX_aload_n dX11_clear_0 rfl ?_
  refine aX_get (v := .int (nI (z.1.1))) dX11_clear_1 lfX11_150 s159 (congrArg Value.int (hs.1)) ?_
  refine aX_istore_n (lv' := [(0, .ref 159), (1, .int (nI (z.1.1)))]) dX11_clear_4 (by decide) rfl ?_
  refine aX_aload_n dX11_clear_5 rfl ?_
  refine aX_iconst (v := nI 0) dX11_clear_6 (by decide) ?_
  refine pI dX11_clear_7 lfX11_150 (fun _ _ _ hq => by cases hq; exact Or.inl rfl) s159 rfl ?_
  obtain ⟨I3, hI3⟩ : ∃ y, y = (aU I 159 0 (nI (0))) := ⟨_, rfl⟩
  rw [← hI3]
  have hk3 : ∀ q j, ¬ (q = 159 ∧ j = 0) → I3 q j = I q j := fun q j g => by rw [hI3, aU_n g]
  have hs3 : mnRep I3 (jN0 z.1) := ⟨by rw [hI3, aU_s]; rfl, fun i hi => absurd hi (by show ¬ i < 0; omega)⟩
  have ho3 : jOk (jN0 z.1) := ⟨by show 0 ≤ 16; omega, fun i hi => absurd hi (by show ¬ i < 0; omega)⟩
  have h63 : jSix (jN0 z.1) := fun t => by show 0 ≤ 6; omega
  refine aX_aload_n dX11_clear_10 rfl ?_
  refine cV (As := []) (st := []) dX11_clear_11 kX11_clear_136 s159 aEok0 rfl rfl (Nat.le_of_ble_eq_true rfl) (m_divide hR hs3 ho3 (mlRep_of (fun q j _ _ => hk3 q j (by omega)) hl)) (fun ans' h' hq9 => ?_)
  obtain ⟨rfl, I5, rfl, d1, d2, d3, d4, d5, d6, d7⟩ := hq9
  refine ⟨rfl, ?_⟩
  refine aX_iload_n dX11_clear_14 rfl ?_
  exact rI dX11_clear_15 rfl (⟨rfl, I5, L, rfl, mmRep_new ho3 h63 hg (mwRep_of (fun j => hk3 170 j (by omega)) hw) (prRep_of (hk3 159 34 (by omega)) (fun _ => rfl) hpr) (mtRep_of (fun q j g => hk3 q j (by omega)) htx) d1 d2 d3 d4 d5 d6 d7, fun q j g => (d7 q j (by omega) (by omega)).trans (hk3 q j (by omega)), fun _ _ _ => rfl⟩)
set_option maxHeartbeats 1000000 in
theorem m10_bind {I : Nat → Nat → Int32} {L : Nat → Nat → Int64} {R : Nat → Nat → Option Nat} (hR : aRf R) {z : jZ} (hz : mmRep I L z) {x : Int32} {b : Bool} : aM mX11_bind [.ref 159, .int x, .int (bI b)] (sh0, I, L, R) (fun ans h' => ans = some (.int (oBind z x b).1) ∧ ∃ I' L', h' = (sh0, I', L', R) ∧ mmRep I' L' (oBind z x b).2 ∧ mmK I I' ∧ mmKL L L') := by
  obtain ⟨hs, ho, h6, hl, hg, hw, hS, hcn, h12, h13, hpc, hcz, hpz, hpr, htx⟩ := id hz
  have hn := ho.1
  have hSl := jS_len z.1
  refine aM_of plX11_bind (Nat.le_of_ble_eq_true rfl) ?_
  refine aX_aload_n dX11_bind_0 rfl ?_
  refine aX_iload_n dX11_bind_1 rfl ?_
  refine cVp (As := [.int (x)]) (st := []) (v := .int (bI (jIx x z.1.1))) dX11_bind_2 kX11_bind_188 s159 aEok0 rfl rfl (Nat.le_of_ble_eq_true rfl) (m_isNote hR hs ho) ?_
  refine bNe (tgt := 10) dX11_bind_5 (by decide) (fun c1 => ?_) (fun c1 => ?_)
  · obtain ⟨i, hi, rfl⟩ := jIx_t (by omega) c1
    refine aX_aload_n dX11_bind_10 rfl ?_
    refine aX_get dX11_bind_11 lfX11_19 s159 (f159_4 hR) ?_
    refine aX_iload_n dX11_bind_14 rfl ?_
    refine nZald (v := bI (z.1.2.2.2.2 i)) dX11_bind_15 s163 (by first | omega | exact Nat.lt_of_le_of_lt (Nat.mod_le _ _) (by omega)) (by decide) ((hs.2 i hi).2.2.2) ?_
    refine bEq (tgt := 23) dX11_bind_16 (by decide) (fun c2 => ?_) (fun c2 => ?_)
    · refine aX_iconst (v := nI 0) dX11_bind_23 (by decide) ?_
      refine aX_istore_n (lv' := [(0, .ref 159), (1, .int (nI (i))), (2, .int (bI (b))), (3, .int (nI (0)))]) dX11_bind_24 (by decide) rfl ?_
      refine aX_aload_n dX11_bind_25 rfl ?_
      refine aX_get dX11_bind_26 lfX11_19 s159 (f159_4 hR) ?_
      refine aX_iload_n dX11_bind_29 rfl ?_
      refine aX_iload_n dX11_bind_30 rfl ?_
      refine nZast dX11_bind_31 s163 (by first | omega | exact Nat.lt_of_le_of_lt (Nat.mod_le _ _) (by omega)) (by decide) ?_
      obtain ⟨I3, hI3⟩ : ∃ y, y = (aU I 163 i (bI (b))) := ⟨_, rfl⟩
      rw [← hI3]
      have hk3 : ∀ q j, q ≠ 163 → I3 q j = I q j := fun q j g => by rw [hI3, aU_n (by omega)]
      have hs3 : mnRep I3 (jBind z.1 i b) := ⟨(hk3 159 0 (by omega)).trans hs.1, fun m hm => by
        have hm' : m < z.1.1 := hm
        obtain ⟨a1, a2, a3, a4⟩ := hs.2 m hm'
        refine ⟨(hk3 160 m (by omega)).trans a1, (hk3 161 m (by omega)).trans a2, (hk3 162 m (by omega)).trans a3, ?_⟩
        show I3 163 m = bI (va_up z.1.2.2.2.2 i b m)
        by_cases e : m = i
        · subst e; rw [hI3, aU_s]; simp [va_up]
        · rw [hI3, aU_n (by omega)]; simp only [va_up, if_neg e]; exact a4⟩
      have ho3 : jOk (jBind z.1 i b) := ho
      have h63 : jSix (jBind z.1 i b) := h6
      refine aX_aload_n dX11_bind_32 rfl ?_
      refine cV (As := []) (st := []) dX11_bind_33 kX11_bind_136 s159 aEok0 rfl rfl (Nat.le_of_ble_eq_true rfl) (m_divide hR hs3 ho3 (mlRep_of (fun q j _ _ => hk3 q j (by omega)) hl)) (fun ans' h' hq9 => ?_)
      obtain ⟨rfl, I5, rfl, d1, d2, d3, d4, d5, d6, d7⟩ := hq9
      refine ⟨rfl, ?_⟩
      refine aX_iload_n dX11_bind_36 rfl ?_
      exact rI dX11_bind_37 rfl (by rw [show oBind z (nI i) b = (nI 0, jBind z.1 i b, z.2.1, z.2.2.1, false, false, z.2.2.2.2.2) by unfold oBind; rw [if_pos c1]; simp only [nI_clamp (show i < 2 ^ 31 by omega), c2]; rfl]; exact ⟨rfl, I5, L, rfl, mmRep_new ho3 h63 hg (mwRep_of (fun j => hk3 170 j (by omega)) hw) (prRep_of (hk3 159 34 (by omega)) (fun _ => rfl) hpr) (mtRep_of (fun q j g => hk3 q j (by omega)) htx) d1 d2 d3 d4 d5 d6 d7, fun q j g => (d7 q j (by omega) (by omega)).trans (hk3 q j (by omega)), fun _ _ _ => rfl⟩)
    · refine aX_iconst (v := nI 1) dX11_bind_19 (by decide) ?_
      refine aX_goto (tgt := 24) dX11_bind_20 (by decide) ?_
      refine aX_istore_n (lv' := [(0, .ref 159), (1, .int (nI (i))), (2, .int (bI (b))), (3, .int (nI (1)))]) dX11_bind_24 (by decide) rfl ?_
      refine aX_aload_n dX11_bind_25 rfl ?_
      refine aX_get dX11_bind_26 lfX11_19 s159 (f159_4 hR) ?_
      refine aX_iload_n dX11_bind_29 rfl ?_
      refine aX_iload_n dX11_bind_30 rfl ?_
      refine nZast dX11_bind_31 s163 (by first | omega | exact Nat.lt_of_le_of_lt (Nat.mod_le _ _) (by omega)) (by decide) ?_
      obtain ⟨I3, hI3⟩ : ∃ y, y = (aU I 163 i (bI (b))) := ⟨_, rfl⟩
      rw [← hI3]
      have hk3 : ∀ q j, q ≠ 163 → I3 q j = I q j := fun q j g => by rw [hI3, aU_n (by omega)]
      have hs3 : mnRep I3 (jBind z.1 i b) := ⟨(hk3 159 0 (by omega)).trans hs.1, fun m hm => by
        have hm' : m < z.1.1 := hm
        obtain ⟨a1, a2, a3, a4⟩ := hs.2 m hm'
        refine ⟨(hk3 160 m (by omega)).trans a1, (hk3 161 m (by omega)).trans a2, (hk3 162 m (by omega)).trans a3, ?_⟩
        show I3 163 m = bI (va_up z.1.2.2.2.2 i b m)
        by_cases e : m = i
        · subst e; rw [hI3, aU_s]; simp [va_up]
        · rw [hI3, aU_n (by omega)]; simp only [va_up, if_neg e]; exact a4⟩
      have ho3 : jOk (jBind z.1 i b) := ho
      have h63 : jSix (jBind z.1 i b) := h6
      refine aX_aload_n dX11_bind_32 rfl ?_
      refine cV (As := []) (st := []) dX11_bind_33 kX11_bind_136 s159 aEok0 rfl rfl (Nat.le_of_ble_eq_true rfl) (m_divide hR hs3 ho3 (mlRep_of (fun q j _ _ => hk3 q j (by omega)) hl)) (fun ans' h' hq9 => ?_)
      obtain ⟨rfl, I5, rfl, d1, d2, d3, d4, d5, d6, d7⟩ := hq9
      refine ⟨rfl, ?_⟩
      refine aX_iload_n dX11_bind_36 rfl ?_
      exact rI dX11_bind_37 rfl (by rw [show oBind z (nI i) b = (nI 1, jBind z.1 i b, z.2.1, z.2.2.1, false, false, z.2.2.2.2.2) by unfold oBind; rw [if_pos c1]; simp only [nI_clamp (show i < 2 ^ 31 by omega), c2]; rfl]; exact ⟨rfl, I5, L, rfl, mmRep_new ho3 h63 hg (mwRep_of (fun j => hk3 170 j (by omega)) hw) (prRep_of (hk3 159 34 (by omega)) (fun _ => rfl) hpr) (mtRep_of (fun q j g => hk3 q j (by omega)) htx) d1 d2 d3 d4 d5 d6 d7, fun q j g => (d7 q j (by omega) (by omega)).trans (hk3 q j (by omega)), fun _ _ _ => rfl⟩)
  · refine aX_iconst (v := (-1)) dX11_bind_8 (by decide) ?_
    exact rI dX11_bind_9 rfl (by rw [show oBind z x b = (-1, z) by unfold oBind; rw [if_neg (by simp [c1])]]; exact ⟨rfl, I, L, rfl, hz, fun _ _ _ => rfl, fun _ _ _ => rfl⟩)
set_option maxHeartbeats 1000000 in
theorem m10_empty {I : Nat → Nat → Int32} {L : Nat → Nat → Int64} {R : Nat → Nat → Option Nat} (hR : aRf R) {z : jZ} (hz : mmRep I L z) {x : Int32} : aM mX11_empty [.ref 159, .int x] (sh0, I, L, R) (fun ans h' => ans = some (.int (oEmpty z x).1) ∧ ∃ I' L', h' = (sh0, I', L', R) ∧ mmRep I' L' (oEmpty z x).2 ∧ mmK I I' ∧ mmKL L L') := by
  obtain ⟨hs, ho, h6, hl, hg, hw, hS, hcn, h12, h13, hpc, hcz, hpz, hpr, htx⟩ := id hz
  have hn := ho.1
  have hSl := jS_len z.1
  refine aM_of plX11_empty (Nat.le_of_ble_eq_true rfl) ?_
  refine aX_aload_n dX11_empty_0 rfl ?_
  refine aX_iload_n dX11_empty_1 rfl ?_
  refine aX_iconst (v := nI 0) dX11_empty_2 (by decide) ?_
  refine aX_bipush (v := nI 11) dX11_empty_3 (by decide) ?_
  refine cVp (As := [.int (x), .int (nI (0)), .int (nI (11))]) (st := []) (v := .int (bI (decide (nI (0) ≤ x) && decide (x ≤ nI (11))))) dX11_empty_5 kX11_empty_180 s159 aEok0 rfl rfl (Nat.le_of_ble_eq_true rfl) (m_isIn) ?_
  refine bNe (tgt := 13) dX11_empty_8 (by decide) (fun c1 => ?_) (fun c1 => ?_)
  · have hix : jIx x 12 = true := by rw [← jIx_isIn (a := 11) (by decide)]; exact c1
    obtain ⟨c, hcc, rfl⟩ := jIx_t (by omega) hix
    have hrk := (hl.1 c hcc).1
    refine aX_aload_n dX11_empty_13 rfl ?_
    refine aX_get dX11_empty_14 lfX11_23 s159 (f159_5 hR) ?_
    refine aX_iload_n dX11_empty_17 rfl ?_
    refine nIald (v := nI (z.2.1.1 c)) dX11_empty_18 s164 (by first | omega | exact Nat.lt_of_le_of_lt (Nat.mod_le _ _) (by omega)) (by decide) (hl.2.1 c hcc) ?_
    refine aX_istore_n (lv' := [(0, .ref 159), (1, .int (nI (c))), (2, .int (nI (z.2.1.1 c)))]) dX11_empty_19 (by decide) rfl ?_
    refine aX_aload_n dX11_empty_20 rfl ?_
    refine aX_get dX11_empty_21 lfX11_23 s159 (f159_5 hR) ?_
    refine aX_iload_n dX11_empty_24 rfl ?_
    refine aX_iconst (v := nI 0) dX11_empty_25 (by decide) ?_
    refine nIast dX11_empty_26 s164 (by first | omega | exact Nat.lt_of_le_of_lt (Nat.mod_le _ _) (by omega)) (by decide) ?_
    obtain ⟨I3, hI3⟩ : ∃ y, y = (aU I 164 c (nI (0))) := ⟨_, rfl⟩
    rw [← hI3]
    have hk3 : ∀ q j, q ≠ 164 → I3 q j = I q j := fun q j g => by rw [hI3, aU_n (by omega)]
    have hg3 : rGood (rClear z.2.1 c) := fun a i ha hi => by
      unfold rClear at hi ⊢
      by_cases e : a = c
      · subst e; simp [va_up] at hi
      · simp only [va_up, if_neg e] at hi; exact hg a i ha hi
    have hl3 : mlRep I3 (rClear z.2.1 c) := by
      refine ⟨fun a ha => ?_, fun a ha => ?_, fun a i j ha hi hj => ?_, fun q hq => ⟨(hk3 168 q (by omega)).trans (hl.2.2.2 q hq).1, (hk3 169 q (by omega)).trans (hl.2.2.2 q hq).2⟩⟩
      · unfold rClear
        by_cases e : a = c
        · subst e; simp [va_up]
        · simp only [va_up, if_neg e]; exact hl.1 a ha
      · unfold rClear
        by_cases e : a = c
        · subst e; rw [hI3, aU_s]; simp [va_up]
        · rw [hI3, aU_n (by omega)]; simp only [va_up, if_neg e]; exact hl.2.1 a ha
      · unfold rClear at hi ⊢
        by_cases e : a = c
        · subst e; simp [va_up] at hi
        · simp only [va_up, if_neg e] at hi
          obtain ⟨y1, y2, y3⟩ := hl.2.2.1 a i j ha hi hj
          exact ⟨(hk3 165 j (by omega)).trans y1, (hk3 166 j (by omega)).trans y2, fun q hq => (hk3 167 _ (by omega)).trans (y3 q hq)⟩
    refine aX_aload_n dX11_empty_27 rfl ?_
    refine cV (As := []) (st := []) dX11_empty_28 kX11_empty_136 s159 aEok0 rfl rfl (Nat.le_of_ble_eq_true rfl) (m_divide hR (mnRep_of (fun q j g => hk3 q j (by omega)) hs) ho hl3) (fun ans' h' hq9 => ?_)
    obtain ⟨rfl, I5, rfl, d1, d2, d3, d4, d5, d6, d7⟩ := hq9
    refine ⟨rfl, ?_⟩
    refine aX_iload_n dX11_empty_31 rfl ?_
    exact rI dX11_empty_32 rfl (by rw [show oEmpty z (nI c) = (nI (z.2.1.1 c), z.1, rClear z.2.1 c, z.2.2.1, false, false, z.2.2.2.2.2) by unfold oEmpty; rw [if_pos hix]; simp only [nI_clamp (show c < 2 ^ 31 by omega)]]; exact ⟨rfl, I5, L, rfl, mmRep_new ho h6 hg3 (mwRep_of (fun j => hk3 170 j (by omega)) hw) (prRep_of (hk3 159 34 (by omega)) (fun _ => rfl) hpr) (mtRep_of (fun q j g => hk3 q j (by omega)) htx) d1 d2 d3 d4 d5 d6 d7, fun q j g => (d7 q j (by omega) (by omega)).trans (hk3 q j (by omega)), fun _ _ _ => rfl⟩)
  · have hix : jIx x 12 = false := by rw [← jIx_isIn (a := 11) (by decide)]; exact c1
    refine aX_iconst (v := (-1)) dX11_empty_11 (by decide) ?_
    exact rI dX11_empty_12 rfl (by rw [show oEmpty z x = (-1, z) by unfold oEmpty; rw [if_neg (by rw [hix]; simp)]]; exact ⟨rfl, I, L, rfl, hz, fun _ _ _ => rfl, fun _ _ _ => rfl⟩)
theorem wt_eq {v : Int32} {a : Nat} : (decide (nI 0 ≤ v) && decide (v ≤ nI a)) = (!decide (v < 0) && decide (v ≤ nI a)) := by
  have : decide (nI 0 ≤ v) = !decide (v < 0) := by
    by_cases g : v < 0
    · rw [decide_eq_true g, decide_eq_false (show ¬ nI 0 ≤ v from fun y => absurd g (Int32.not_lt.mpr y))]; rfl
    · rw [decide_eq_false g, decide_eq_true (show (nI 0 : Int32) ≤ v from Int32.not_lt.mp g)]; rfl
  rw [this]
set_option maxHeartbeats 1000000 in
theorem m10_weight {I : Nat → Nat → Int32} {L : Nat → Nat → Int64} {R : Nat → Nat → Option Nat} (hR : aRf R) {z : jZ} (hz : mmRep I L z) {x v : Int32} : aM mX11_weight [.ref 159, .int x, .int v] (sh0, I, L, R) (fun ans h' => ans = some (.int (oWeight z x v).1) ∧ ∃ I' L', h' = (sh0, I', L', R) ∧ mmRep I' L' (oWeight z x v).2 ∧ mmK I I' ∧ mmKL L L') := by
  obtain ⟨hs, ho, h6, hl, hg, hw, hS, hcn, h12, h13, hpc, hcz, hpz, hpr, htx⟩ := id hz
  have hn := ho.1
  have hSl := jS_len z.1
  refine aM_of plX11_weight (Nat.le_of_ble_eq_true rfl) ?_
  refine aX_aload_n dX11_weight_0 rfl ?_
  refine aX_iload_n dX11_weight_1 rfl ?_
  refine aX_iconst (v := nI 0) dX11_weight_2 (by decide) ?_
  refine aX_iconst (v := nI 4) dX11_weight_3 (by decide) ?_
  refine cVp (As := [.int (x), .int (nI (0)), .int (nI (4))]) (st := []) (v := .int (bI (decide (nI (0) ≤ x) && decide (x ≤ nI (4))))) dX11_weight_4 kX11_weight_180 s159 aEok0 rfl rfl (Nat.le_of_ble_eq_true rfl) (m_isIn) ?_
  refine bEq (tgt := 30) dX11_weight_7 (by decide) (fun c1 => ?_) (fun c1 => ?_)
  · have hix : jIx x 5 = false := by rw [← jIx_isIn (a := 4) (by decide)]; exact c1
    refine aX_iconst (v := (-1)) dX11_weight_30 (by decide) ?_
    exact rI dX11_weight_31 rfl (by rw [show oWeight z x v = (-1, z) by unfold oWeight; rw [if_neg (by rw [hix]; simp)]]; exact ⟨rfl, I, L, rfl, hz, fun _ _ _ => rfl, fun _ _ _ => rfl⟩)
  · have hix : jIx x 5 = true := by rw [← jIx_isIn (a := 4) (by decide)]; exact c1
    obtain ⟨i, hi, rfl⟩ := jIx_t (by omega) hix
    have hgw := gw_le i
    refine aX_aload_n dX11_weight_10 rfl ?_
    refine aX_iload_n dX11_weight_11 rfl ?_
    refine aX_iconst (v := nI 0) dX11_weight_12 (by decide) ?_
    refine aX_iload_n dX11_weight_13 rfl ?_
    refine nIf_ne (tgt := 22) dX11_weight_14 (by decide) (by first | omega | exact Nat.lt_of_le_of_lt (Nat.mod_le _ _) (by omega)) (fun c2 => ?_) (fun c2 => ?_)
    · have hgv : gw i = 99 := by rcases (show i = 1 ∨ i = 2 ∨ i = 3 ∨ i = 4 by omega) with q | q | q | q <;> rw [q] <;> rfl
      refine aX_bipush (v := nI 99) dX11_weight_22 (by decide) ?_
      refine cVp (As := [.int (v), .int (nI (0)), .int (nI (99))]) (st := []) (v := .int (bI (decide (nI (0) ≤ v) && decide (v ≤ nI (99))))) dX11_weight_24 kX11_weight_180 s159 aEok0 rfl rfl (Nat.le_of_ble_eq_true rfl) (m_isIn) ?_
      refine bNe (tgt := 32) dX11_weight_27 (by decide) (fun c3 => ?_) (fun c3 => ?_)
      · have hvv := c3
        rw [← hgv] at hvv
        obtain ⟨kv, hkg, rfl⟩ := (isIn_lt (by omega)).mp hvv
        have hkv : kv < 2 ^ 31 := by omega
        refine aX_aload_n dX11_weight_32 rfl ?_
        refine aX_get dX11_weight_33 lfX11_48 s159 (f159_11 hR) ?_
        refine aX_iload_n dX11_weight_36 rfl ?_
        refine nIald (v := nI (z.2.2.1 i)) dX11_weight_37 s170 (by first | omega | exact Nat.lt_of_le_of_lt (Nat.mod_le _ _) (by omega)) (by decide) (hw.2 i hi) ?_
        refine aX_istore_n (lv' := [(0, .ref 159), (1, .int (nI (i))), (2, .int (nI (kv))), (3, .int (nI (z.2.2.1 i)))]) dX11_weight_38 (by decide) rfl ?_
        refine aX_aload_n dX11_weight_39 rfl ?_
        refine aX_get dX11_weight_40 lfX11_48 s159 (f159_11 hR) ?_
        refine aX_iload_n dX11_weight_43 rfl ?_
        refine aX_iload_n dX11_weight_44 rfl ?_
        refine nIast dX11_weight_45 s170 (by first | omega | exact Nat.lt_of_le_of_lt (Nat.mod_le _ _) (by omega)) (by decide) ?_
        obtain ⟨I3, hI3⟩ : ∃ y, y = (aU I 170 i (nI (kv))) := ⟨_, rfl⟩
        rw [← hI3]
        have hk3 : ∀ q j, q ≠ 170 → I3 q j = I q j := fun q j g => by rw [hI3, aU_n (by omega)]
        have hw3 : mwRep I3 (va_up z.2.2.1 i kv) := by
          refine ⟨⟨?_, fun a h1 h2 => ?_⟩, fun a ha => ?_⟩
          · by_cases e : 0 = i
            · subst e; simp only [va_up, if_true]; exact hkg
            · simp only [va_up, if_neg e]; exact hw.1.1
          · by_cases e : a = i
            · subst e; simp only [va_up, if_true]
              have : gw a = 99 := by
                rcases (show a = 1 ∨ a = 2 ∨ a = 3 ∨ a = 4 by omega) with q | q | q | q <;> rw [q] <;> rfl
              omega
            · simp only [va_up, if_neg e]; exact hw.1.2 a h1 h2
          · by_cases e : a = i
            · subst e; rw [hI3, aU_s]; simp [va_up]
            · rw [hI3, aU_n (by omega)]; simp only [va_up, if_neg e]; exact hw.2 a ha
        refine aX_aload_n dX11_weight_46 rfl ?_
        refine cV (As := []) (st := []) dX11_weight_47 kX11_weight_136 s159 aEok0 rfl rfl (Nat.le_of_ble_eq_true rfl) (m_divide hR (mnRep_of (fun q j g => hk3 q j (by omega)) hs) ho (mlRep_of (fun q j _ _ => hk3 q j (by omega)) hl)) (fun ans' h' hq9 => ?_)
        obtain ⟨rfl, I5, rfl, d1, d2, d3, d4, d5, d6, d7⟩ := hq9
        refine ⟨rfl, ?_⟩
        refine aX_iload_n dX11_weight_50 rfl ?_
        exact rI dX11_weight_51 rfl (by rw [show oWeight z (nI i) (nI kv) = (nI (z.2.2.1 i), z.1, z.2.1, va_up z.2.2.1 i kv, false, false, z.2.2.2.2.2) by unfold oWeight; simp only [nI_clamp (show i < 2 ^ 31 by omega), nI_clamp hkv]; rw [if_pos (by rw [hix, Bool.true_and, ← wt_eq]; exact hvv)]]; exact ⟨rfl, I5, L, rfl, mmRep_new ho h6 hg hw3 (prRep_of (hk3 159 34 (by omega)) (fun _ => rfl) hpr) (mtRep_of (fun q j g => hk3 q j (by omega)) htx) d1 d2 d3 d4 d5 d6 d7, fun q j g => (d7 q j (by omega) (by omega)).trans (hk3 q j (by omega)), fun _ _ _ => rfl⟩)
      · have hvv := c3
        rw [← hgv] at hvv
        refine aX_iconst (v := (-1)) dX11_weight_30 (by decide) ?_
        exact rI dX11_weight_31 rfl (by rw [show oWeight z (nI i) v = (-1, z) by unfold oWeight; simp only [nI_clamp (show i < 2 ^ 31 by omega)]; rw [if_neg (by rw [hix, Bool.true_and]; intro y; have e := wt_eq (v := v) (a := gw i); rw [y] at e; rw [e] at hvv; exact absurd hvv (by decide))]]; exact ⟨rfl, I, L, rfl, hz, fun _ _ _ => rfl, fun _ _ _ => rfl⟩)
    · have hgv : gw i = 1000000 := by rw [show i = 0 by omega]; rfl
      refine aX_ldc (v := nI 1000000) dX11_weight_17 lkX11_191 ?_
      refine aX_goto (tgt := 24) dX11_weight_19 (by decide) ?_
      refine cVp (As := [.int (v), .int (nI (0)), .int (nI (1000000))]) (st := []) (v := .int (bI (decide (nI (0) ≤ v) && decide (v ≤ nI (1000000))))) dX11_weight_24 kX11_weight_180 s159 aEok0 rfl rfl (Nat.le_of_ble_eq_true rfl) (m_isIn) ?_
      refine bNe (tgt := 32) dX11_weight_27 (by decide) (fun c4 => ?_) (fun c4 => ?_)
      · have hvv := c4
        rw [← hgv] at hvv
        obtain ⟨kv, hkg, rfl⟩ := (isIn_lt (by omega)).mp hvv
        have hkv : kv < 2 ^ 31 := by omega
        refine aX_aload_n dX11_weight_32 rfl ?_
        refine aX_get dX11_weight_33 lfX11_48 s159 (f159_11 hR) ?_
        refine aX_iload_n dX11_weight_36 rfl ?_
        refine nIald (v := nI (z.2.2.1 i)) dX11_weight_37 s170 (by first | omega | exact Nat.lt_of_le_of_lt (Nat.mod_le _ _) (by omega)) (by decide) (hw.2 i hi) ?_
        refine aX_istore_n (lv' := [(0, .ref 159), (1, .int (nI (i))), (2, .int (nI (kv))), (3, .int (nI (z.2.2.1 i)))]) dX11_weight_38 (by decide) rfl ?_
        refine aX_aload_n dX11_weight_39 rfl ?_
        refine aX_get dX11_weight_40 lfX11_48 s159 (f159_11 hR) ?_
        refine aX_iload_n dX11_weight_43 rfl ?_
        refine aX_iload_n dX11_weight_44 rfl ?_
        refine nIast dX11_weight_45 s170 (by first | omega | exact Nat.lt_of_le_of_lt (Nat.mod_le _ _) (by omega)) (by decide) ?_
        obtain ⟨I3, hI3⟩ : ∃ y, y = (aU I 170 i (nI (kv))) := ⟨_, rfl⟩
        rw [← hI3]
        have hk3 : ∀ q j, q ≠ 170 → I3 q j = I q j := fun q j g => by rw [hI3, aU_n (by omega)]
        have hw3 : mwRep I3 (va_up z.2.2.1 i kv) := by
          refine ⟨⟨?_, fun a h1 h2 => ?_⟩, fun a ha => ?_⟩
          · by_cases e : 0 = i
            · subst e; simp only [va_up, if_true]; exact hkg
            · simp only [va_up, if_neg e]; exact hw.1.1
          · by_cases e : a = i
            · subst e; simp only [va_up, if_true]
              have : gw a = 99 := by
                rcases (show a = 1 ∨ a = 2 ∨ a = 3 ∨ a = 4 by omega) with q | q | q | q <;> rw [q] <;> rfl
              omega
            · simp only [va_up, if_neg e]; exact hw.1.2 a h1 h2
          · by_cases e : a = i
            · subst e; rw [hI3, aU_s]; simp [va_up]
            · rw [hI3, aU_n (by omega)]; simp only [va_up, if_neg e]; exact hw.2 a ha
        refine aX_aload_n dX11_weight_46 rfl ?_
        refine cV (As := []) (st := []) dX11_weight_47 kX11_weight_136 s159 aEok0 rfl rfl (Nat.le_of_ble_eq_true rfl) (m_divide hR (mnRep_of (fun q j g => hk3 q j (by omega)) hs) ho (mlRep_of (fun q j _ _ => hk3 q j (by omega)) hl)) (fun ans' h' hq9 => ?_)
        obtain ⟨rfl, I5, rfl, d1, d2, d3, d4, d5, d6, d7⟩ := hq9
        refine ⟨rfl, ?_⟩
        refine aX_iload_n dX11_weight_50 rfl ?_
        exact rI dX11_weight_51 rfl (by rw [show oWeight z (nI i) (nI kv) = (nI (z.2.2.1 i), z.1, z.2.1, va_up z.2.2.1 i kv, false, false, z.2.2.2.2.2) by unfold oWeight; simp only [nI_clamp (show i < 2 ^ 31 by omega), nI_clamp hkv]; rw [if_pos (by rw [hix, Bool.true_and, ← wt_eq]; exact hvv)]]; exact ⟨rfl, I5, L, rfl, mmRep_new ho h6 hg hw3 (prRep_of (hk3 159 34 (by omega)) (fun _ => rfl) hpr) (mtRep_of (fun q j g => hk3 q j (by omega)) htx) d1 d2 d3 d4 d5 d6 d7, fun q j g => (d7 q j (by omega) (by omega)).trans (hk3 q j (by omega)), fun _ _ _ => rfl⟩)
      · have hvv := c4
        rw [← hgv] at hvv
        refine aX_iconst (v := (-1)) dX11_weight_30 (by decide) ?_
        exact rI dX11_weight_31 rfl (by rw [show oWeight z (nI i) v = (-1, z) by unfold oWeight; simp only [nI_clamp (show i < 2 ^ 31 by omega)]; rw [if_neg (by rw [hix, Bool.true_and]; intro y; have e := wt_eq (v := v) (a := gw i); rw [y] at e; rw [e] at hvv; exact absurd hvv (by decide))]]; exact ⟨rfl, I, L, rfl, hz, fun _ _ _ => rfl, fun _ _ _ => rfl⟩)
set_option maxHeartbeats 1000000 in
theorem m10_set {I : Nat → Nat → Int32} {L : Nat → Nat → Int64} {R : Nat → Nat → Option Nat} (hR : aRf R) {z : jZ} (hz : mmRep I L z) {x y : Int32} : aM mX11_set [.ref 159, .int x, .int y] (sh0, I, L, R) (fun ans h' => ans = some (.int (oSet z x y)) ∧ ∃ I' L', h' = (sh0, I', L', R) ∧ mmRep I' L' z ∧ mmK I I' ∧ mmKL L L') := by
  obtain ⟨hs, ho, h6, hl, hg, hw, hS, hcn, h12, h13, hpc, hcz, hpz, hpr, htx⟩ := id hz
  have hn := ho.1
  have hSl := jS_len z.1
  refine aM_of plX11_set (Nat.le_of_ble_eq_true rfl) ?_
  refine aX_aload_n dX11_set_0 rfl ?_
  refine aX_iload_n dX11_set_1 rfl ?_
  refine cVp (As := [.int (x)]) (st := []) (v := .int (bI (jIx x (jS z.1).length))) dX11_set_2 kX11_set_184 s159 aEok0 rfl rfl (Nat.le_of_ble_eq_true rfl) (m_isSet hR hs ho hS hSl) ?_
  refine bEq (tgt := 18) dX11_set_5 (by decide) (fun c1 => ?_) (fun c1 => ?_)
  · refine aX_iconst (v := (-1)) dX11_set_18 (by decide) ?_
    exact rI dX11_set_19 rfl (⟨by rw [show oSet z x y = -1 by unfold oSet; rw [if_neg (by simp [c1])]], I, L, rfl, hz, fun _ _ _ => rfl, fun _ _ _ => rfl⟩)
  · obtain ⟨k, hk, rfl⟩ := jIx_t (by omega) c1
    obtain ⟨q, hq, hqb⟩ := jQ hk
    have hse := hS.2 k q hq
    have hcl : cn0 (nI k) = k := nI_clamp (by omega)
    refine aX_aload_n dX11_set_8 rfl ?_
    refine aX_iload_n dX11_set_9 rfl ?_
    refine aX_iconst (v := nI 0) dX11_set_10 (by decide) ?_
    refine aX_iconst (v := nI 4) dX11_set_11 (by decide) ?_
    refine cVp (As := [.int (y), .int (nI (0)), .int (nI (4))]) (st := []) (v := .int (bI (decide (nI (0) ≤ y) && decide (y ≤ nI (4))))) dX11_set_12 kX11_set_180 s159 aEok0 rfl rfl (Nat.le_of_ble_eq_true rfl) (m_isIn) ?_
    refine bNe (tgt := 20) dX11_set_15 (by decide) (fun c2 => ?_) (fun c2 => ?_)
    · obtain ⟨v, hv, rfl⟩ := (isIn_lt (by decide)).mp c2
      refine aX_iload_n dX11_set_20 rfl ?_
      refine nIf_ne (tgt := 33) dX11_set_21 (by decide) (by first | omega | exact Nat.lt_of_le_of_lt (Nat.mod_le _ _) (by omega)) (fun c3 => ?_) (fun c3 => ?_)
      · refine aX_iload_n dX11_set_33 rfl ?_
        refine aX_iconst (v := nI 1) dX11_set_34 (by decide) ?_
        refine nNe (tgt := 47) dX11_set_35 (by decide) (by first | omega | exact Nat.lt_of_le_of_lt (Nat.mod_le _ _) (by omega)) (by first | omega | exact Nat.lt_of_le_of_lt (Nat.mod_le _ _) (by omega)) (fun c4 => ?_) (fun c4 => ?_)
        · refine aX_iload_n dX11_set_47 rfl ?_
          refine aX_iconst (v := nI 2) dX11_set_48 (by decide) ?_
          refine nNe (tgt := 61) dX11_set_49 (by decide) (by first | omega | exact Nat.lt_of_le_of_lt (Nat.mod_le _ _) (by omega)) (by first | omega | exact Nat.lt_of_le_of_lt (Nat.mod_le _ _) (by omega)) (fun c5 => ?_) (fun c5 => ?_)
          · refine aX_iload_n dX11_set_61 rfl ?_
            refine aX_iconst (v := nI 3) dX11_set_62 (by decide) ?_
            refine nNe (tgt := 75) dX11_set_63 (by decide) (by first | omega | exact Nat.lt_of_le_of_lt (Nat.mod_le _ _) (by omega)) (by first | omega | exact Nat.lt_of_le_of_lt (Nat.mod_le _ _) (by omega)) (fun c6 => ?_) (fun c6 => ?_)
            · refine aX_aload_n dX11_set_75 rfl ?_
              refine aX_get dX11_set_76 lfX11_66 s159 (f159_20 hR) ?_
              refine aX_iload_n dX11_set_79 rfl ?_
              refine nIald (v := nI (jCo z.1 z.2.1 q.1)) dX11_set_80 s176 (by first | omega | exact Nat.lt_of_le_of_lt (Nat.mod_le _ _) (by omega)) (by decide) (hcn.2.2 k q hq) ?_
              exact rI dX11_set_81 rfl (⟨by rw [show oSet z (nI k) (nI v) = nI (jCo z.1 z.2.1 q.1) by rw [show v = 4 by omega]; unfold oSet; rw [if_pos c1]; rw [if_neg (by decide)]; rw [if_neg (by decide)]; rw [if_neg (by decide)]; rw [if_neg (by decide)]; rw [if_pos rfl]; simp only [hcl]; rw [← hqb]], I, L, rfl, hz, fun _ _ _ => rfl, fun _ _ _ => rfl⟩)
            · refine aX_aload_n dX11_set_66 rfl ?_
              refine aX_get dX11_set_67 lfX11_63 s159 (f159_19 hR) ?_
              refine aX_iload_n dX11_set_70 rfl ?_
              refine nIald (v := nI (jSnd z.1 q.1)) dX11_set_71 s175 (by first | omega | exact Nat.lt_of_le_of_lt (Nat.mod_le _ _) (by omega)) (by decide) (hse.2.2.2.2) ?_
              refine aX_goto (tgt := 81) dX11_set_72 (by decide) ?_
              exact rI dX11_set_81 rfl (⟨by rw [show oSet z (nI k) (nI v) = nI (jSnd z.1 q.1) by rw [show v = 3 by omega]; unfold oSet; rw [if_pos c1]; rw [if_neg (by decide)]; rw [if_neg (by decide)]; rw [if_neg (by decide)]; rw [if_pos rfl]; simp only [hcl]; rw [← hqb]], I, L, rfl, hz, fun _ _ _ => rfl, fun _ _ _ => rfl⟩)
          · refine aX_aload_n dX11_set_52 rfl ?_
            refine aX_get dX11_set_53 lfX11_60 s159 (f159_18 hR) ?_
            refine aX_iload_n dX11_set_56 rfl ?_
            refine nIald (v := nI (jBase z.1 q.1)) dX11_set_57 s174 (by first | omega | exact Nat.lt_of_le_of_lt (Nat.mod_le _ _) (by omega)) (by decide) (hse.2.2.2.1) ?_
            refine aX_goto (tgt := 81) dX11_set_58 (by decide) ?_
            exact rI dX11_set_81 rfl (⟨by rw [show oSet z (nI k) (nI v) = nI (jBase z.1 q.1) by rw [show v = 2 by omega]; unfold oSet; rw [if_pos c1]; rw [if_neg (by decide)]; rw [if_neg (by decide)]; rw [if_pos rfl]; simp only [hcl]; rw [← hqb]], I, L, rfl, hz, fun _ _ _ => rfl, fun _ _ _ => rfl⟩)
        · refine aX_aload_n dX11_set_38 rfl ?_
          refine aX_get dX11_set_39 lfX11_54 s159 (f159_16 hR) ?_
          refine aX_iload_n dX11_set_42 rfl ?_
          refine nIald (v := nI (q.2)) dX11_set_43 s172 (by first | omega | exact Nat.lt_of_le_of_lt (Nat.mod_le _ _) (by omega)) (by decide) (hse.2.1) ?_
          refine aX_goto (tgt := 81) dX11_set_44 (by decide) ?_
          exact rI dX11_set_81 rfl (⟨by rw [show oSet z (nI k) (nI v) = nI (q.2) by rw [show v = 1 by omega]; unfold oSet; rw [if_pos c1]; rw [if_neg (by decide)]; rw [if_pos rfl]; simp only [hcl]; rw [getD_of hq]], I, L, rfl, hz, fun _ _ _ => rfl, fun _ _ _ => rfl⟩)
      · refine aX_aload_n dX11_set_24 rfl ?_
        refine aX_get dX11_set_25 lfX11_51 s159 (f159_15 hR) ?_
        refine aX_iload_n dX11_set_28 rfl ?_
        refine nIald (v := nI (q.1)) dX11_set_29 s171 (by first | omega | exact Nat.lt_of_le_of_lt (Nat.mod_le _ _) (by omega)) (by decide) (hse.1) ?_
        refine aX_goto (tgt := 81) dX11_set_30 (by decide) ?_
        exact rI dX11_set_81 rfl (⟨by rw [show oSet z (nI k) (nI v) = nI (q.1) by rw [show v = 0 by omega]; unfold oSet; rw [if_pos c1]; rw [if_pos rfl]; simp only [hcl]; rw [getD_of hq]], I, L, rfl, hz, fun _ _ _ => rfl, fun _ _ _ => rfl⟩)
    · have hne : ∀ v, v ≤ 4 → ¬ y = nI v := fun v hv e => by have g := (isIn_lt (x := y) (a := 4) (by decide)).mpr ⟨v, hv, e⟩; rw [c2] at g; cases g
      refine aX_iconst (v := (-1)) dX11_set_18 (by decide) ?_
      exact rI dX11_set_19 rfl (⟨by rw [show oSet z (nI k) y = -1 by unfold oSet; rw [if_pos c1, if_neg (hne 0 (by decide)), if_neg (hne 1 (by decide)), if_neg (hne 2 (by decide)), if_neg (hne 3 (by decide)), if_neg (hne 4 (by decide))]], I, L, rfl, hz, fun _ _ _ => rfl, fun _ _ _ => rfl⟩)
set_option maxHeartbeats 1000000 in
theorem m10_sounds {I : Nat → Nat → Int32} {L : Nat → Nat → Int64} {R : Nat → Nat → Option Nat} (hR : aRf R) {z : jZ} (hz : mmRep I L z) {x y : Int32} : aM mX11_sounds [.ref 159, .int x, .int y] (sh0, I, L, R) (fun ans h' => ans = some (.int (oSounds z x y)) ∧ ∃ I' L', h' = (sh0, I', L', R) ∧ mmRep I' L' z ∧ mmK I I' ∧ mmKL L L') := by
  obtain ⟨hs, ho, h6, hl, hg, hw, hS, hcn, h12, h13, hpc, hcz, hpz, hpr, htx⟩ := id hz
  have hn := ho.1
  have hSl := jS_len z.1
  refine aM_of plX11_sounds (Nat.le_of_ble_eq_true rfl) ?_
  refine aX_aload_n dX11_sounds_0 rfl ?_
  refine aX_iload_n dX11_sounds_1 rfl ?_
  refine cVp (As := [.int (x)]) (st := []) (v := .int (bI (jIx x (jS z.1).length))) dX11_sounds_2 kX11_sounds_184 s159 aEok0 rfl rfl (Nat.le_of_ble_eq_true rfl) (m_isSet hR hs ho hS hSl) ?_
  refine bEq (tgt := 16) dX11_sounds_5 (by decide) (fun c1 => ?_) (fun c1 => ?_)
  · refine aX_iconst (v := (-1)) dX11_sounds_16 (by decide) ?_
    exact rI dX11_sounds_17 rfl (⟨by rw [show oSounds z x y = -1 by unfold oSounds; rw [if_neg (by simp [c1])]], I, L, rfl, hz, fun _ _ _ => rfl, fun _ _ _ => rfl⟩)
  · obtain ⟨k, hk, rfl⟩ := jIx_t (by omega) c1
    obtain ⟨q, hq, hqb⟩ := jQ hk
    refine aX_aload_n dX11_sounds_8 rfl ?_
    refine aX_iload_n dX11_sounds_9 rfl ?_
    refine cVp (As := [.int (y)]) (st := []) (v := .int (bI (jIx y z.1.1))) dX11_sounds_10 kX11_sounds_188 s159 aEok0 rfl rfl (Nat.le_of_ble_eq_true rfl) (m_isNote hR hs ho) ?_
    refine bNe (tgt := 18) dX11_sounds_13 (by decide) (fun c2 => ?_) (fun c2 => ?_)
    · obtain ⟨m, hm, rfl⟩ := jIx_t (by omega) c2
      refine aX_aload_n dX11_sounds_18 rfl ?_
      refine aX_iload_n dX11_sounds_19 rfl ?_
      refine aX_iload_n dX11_sounds_20 rfl ?_
      refine cVp (As := [.int (nI (k)), .int (nI (m))]) (st := []) (v := .int (bI (jOn z.1 m q.1))) dX11_sounds_21 kX11_sounds_163 s159 aEok0 rfl rfl (Nat.le_of_ble_eq_true rfl) (m_sounds0 hR hs ho hS hSl hq hm) ?_
      refine bEq (tgt := 31) dX11_sounds_24 (by decide) (fun c3 => ?_) (fun c3 => ?_)
      · refine aX_iconst (v := nI 0) dX11_sounds_31 (by decide) ?_
        exact rI dX11_sounds_32 rfl (⟨by rw [show oSounds z (nI k) (nI m) = nI 0 by unfold oSounds; rw [if_pos (by rw [c1, c2]; rfl)]; simp only [nI_clamp (show k < 2 ^ 31 by omega), nI_clamp (show m < 2 ^ 31 by omega)]; rw [← hqb, c3]; rfl], I, L, rfl, hz, fun _ _ _ => rfl, fun _ _ _ => rfl⟩)
      · refine aX_iconst (v := nI 1) dX11_sounds_27 (by decide) ?_
        refine aX_goto (tgt := 32) dX11_sounds_28 (by decide) ?_
        exact rI dX11_sounds_32 rfl (⟨by rw [show oSounds z (nI k) (nI m) = nI 1 by unfold oSounds; rw [if_pos (by rw [c1, c2]; rfl)]; simp only [nI_clamp (show k < 2 ^ 31 by omega), nI_clamp (show m < 2 ^ 31 by omega)]; rw [← hqb, c3]; rfl], I, L, rfl, hz, fun _ _ _ => rfl, fun _ _ _ => rfl⟩)
    · refine aX_iconst (v := (-1)) dX11_sounds_16 (by decide) ?_
      exact rI dX11_sounds_17 rfl (⟨by rw [show oSounds z (nI k) y = -1 by unfold oSounds; rw [if_neg (by simp [c2])]], I, L, rfl, hz, fun _ _ _ => rfl, fun _ _ _ => rfl⟩)
set_option maxHeartbeats 1000000 in
theorem m_isSounding {I : Nat → Nat → Int32} {L : Nat → Nat → Int64} {R : Nat → Nat → Option Nat} (hR : aRf R) {z : jZ} (hz : mmRep I L z) {x y : Int32} : aMp mX11_isSounding [.ref 159, .int x, .int y] (sh0, I, L, R) (.int (bI (jPart z.1 x y))) := by
  obtain ⟨hs, ho, h6, hl, hg, hw, hS, hcn, h12, h13, hpc, hcz, hpz, hpr, htx⟩ := id hz
  have hn := ho.1
  have hSl := jS_len z.1
  refine aM_of plX11_isSounding (Nat.le_of_ble_eq_true rfl) ?_
  refine aX_aload_n dX11_isSounding_0 rfl ?_
  refine aX_iload_n dX11_isSounding_1 rfl ?_
  refine cVp (As := [.int (x)]) (st := []) (v := .int (bI (jIx x (jS z.1).length))) dX11_isSounding_2 kX11_isSounding_184 s159 aEok0 rfl rfl (Nat.le_of_ble_eq_true rfl) (m_isSet hR hs ho hS hSl) ?_
  refine bEq (tgt := 29) dX11_isSounding_5 (by decide) (fun c1 => ?_) (fun c1 => ?_)
  · refine aX_iconst (v := nI 0) dX11_isSounding_29 (by decide) ?_
    exact rZ dX11_isSounding_30 rfl (Or.inl rfl) (⟨rfl, by rw [show jPart z.1 x y = false by unfold jPart; rw [c1]; rfl]; rfl⟩)
  · obtain ⟨k, hk, rfl⟩ := jIx_t (by omega) c1
    obtain ⟨q, hq, hqb⟩ := jQ hk
    refine aX_aload_n dX11_isSounding_8 rfl ?_
    refine aX_iload_n dX11_isSounding_9 rfl ?_
    refine cVp (As := [.int (y)]) (st := []) (v := .int (bI (jIx y z.1.1))) dX11_isSounding_10 kX11_isSounding_188 s159 aEok0 rfl rfl (Nat.le_of_ble_eq_true rfl) (m_isNote hR hs ho) ?_
    refine bEq (tgt := 29) dX11_isSounding_13 (by decide) (fun c2 => ?_) (fun c2 => ?_)
    · refine aX_iconst (v := nI 0) dX11_isSounding_29 (by decide) ?_
      exact rZ dX11_isSounding_30 rfl (Or.inl rfl) (⟨rfl, by rw [show jPart z.1 (nI k) y = false by unfold jPart; rw [c1, c2]; rfl]; rfl⟩)
    · obtain ⟨m, hm, rfl⟩ := jIx_t (by omega) c2
      refine aX_aload_n dX11_isSounding_16 rfl ?_
      refine aX_iload_n dX11_isSounding_17 rfl ?_
      refine aX_iload_n dX11_isSounding_18 rfl ?_
      refine cVp (As := [.int (nI (k)), .int (nI (m))]) (st := []) (v := .int (bI (jOn z.1 m q.1))) dX11_isSounding_19 kX11_isSounding_163 s159 aEok0 rfl rfl (Nat.le_of_ble_eq_true rfl) (m_sounds0 hR hs ho hS hSl hq hm) ?_
      refine bEq (tgt := 29) dX11_isSounding_22 (by decide) (fun c3 => ?_) (fun c3 => ?_)
      · refine aX_iconst (v := nI 0) dX11_isSounding_29 (by decide) ?_
        exact rZ dX11_isSounding_30 rfl (Or.inl rfl) (⟨rfl, by rw [show jPart z.1 (nI k) (nI m) = false by unfold jPart; rw [c1, c2, nI_clamp (show k < 2 ^ 31 by omega), nI_clamp (show m < 2 ^ 31 by omega)]; show jOn z.1 m (jB z.1 k) = _; rw [← hqb, c3]]; rfl⟩)
      · refine aX_iconst (v := nI 1) dX11_isSounding_25 (by decide) ?_
        refine aX_goto (tgt := 30) dX11_isSounding_26 (by decide) ?_
        exact rZ dX11_isSounding_30 rfl (Or.inr rfl) (⟨rfl, by rw [show jPart z.1 (nI k) (nI m) = true by unfold jPart; rw [c1, c2, nI_clamp (show k < 2 ^ 31 by omega), nI_clamp (show m < 2 ^ 31 by omega)]; show jOn z.1 m (jB z.1 k) = _; rw [← hqb, c3]]; rfl⟩)
set_option maxHeartbeats 1000000 in
theorem m10_variable {I : Nat → Nat → Int32} {L : Nat → Nat → Int64} {R : Nat → Nat → Option Nat} (hR : aRf R) {z : jZ} (hz : mmRep I L z) {x y : Int32} : aM mX11_variable [.ref 159, .int x, .int y] (sh0, I, L, R) (fun ans h' => ans = some (.int (oVariable z x y)) ∧ ∃ I' L', h' = (sh0, I', L', R) ∧ mmRep I' L' z ∧ mmK I I' ∧ mmKL L L') := by
  obtain ⟨hs, ho, h6, hl, hg, hw, hS, hcn, h12, h13, hpc, hcz, hpz, hpr, htx⟩ := id hz
  have hn := ho.1
  have hSl := jS_len z.1
  refine aM_of plX11_variable (Nat.le_of_ble_eq_true rfl) ?_
  refine aX_aload_n dX11_variable_0 rfl ?_
  refine aX_iload_n dX11_variable_1 rfl ?_
  refine aX_iload_n dX11_variable_2 rfl ?_
  refine cVp (As := [.int (x), .int (y)]) (st := []) (v := .int (bI (jPart z.1 x y))) dX11_variable_3 kX11_variable_192 s159 aEok0 rfl rfl (Nat.le_of_ble_eq_true rfl) (m_isSounding hR hz) ?_
  refine bEq (tgt := 23) dX11_variable_6 (by decide) (fun c1 => ?_) (fun c1 => ?_)
  · refine aX_iconst (v := (-1)) dX11_variable_23 (by decide) ?_
    exact rI dX11_variable_24 rfl (⟨by rw [show oVariable z x y = -1 by unfold oVariable; rw [if_neg (by simp [c1])]], I, L, rfl, hz, fun _ _ _ => rfl, fun _ _ _ => rfl⟩)
  · obtain ⟨k, m, hk, hm, rfl, rfl, hon⟩ := jPart_t2 hn c1
    obtain ⟨q, hq, hqb⟩ := jQ hk
    refine aX_aload_n dX11_variable_9 rfl ?_
    refine aX_get dX11_variable_10 lfX11_69 s159 (f159_22 hR) ?_
    refine aX_bipush (v := nI 16) dX11_variable_13 (by decide) ?_
    refine aX_iload_n dX11_variable_15 rfl ?_
    refine nMul dX11_variable_16 ?_
    refine aX_iload_n dX11_variable_17 rfl ?_
    refine nAdd dX11_variable_18 ?_
    refine nIald (v := nI (jV z.1 k m)) dX11_variable_19 s177 (by first | omega | exact Nat.lt_of_le_of_lt (Nat.mod_le _ _) (by omega)) (by decide) (hcn.2.1 k q m hq (jML_mem.mpr ⟨hm, by rw [hqb]; exact hon⟩)) ?_
    refine aX_goto (tgt := 24) dX11_variable_20 (by decide) ?_
    exact rI dX11_variable_24 rfl (⟨by rw [show oVariable z (nI k) (nI m) = nI (jV z.1 k m) by unfold oVariable; rw [if_pos c1]; simp only [nI_clamp (show k < 2 ^ 31 by omega), nI_clamp (show m < 2 ^ 31 by omega)]], I, L, rfl, hz, fun _ _ _ => rfl, fun _ _ _ => rfl⟩)
set_option maxHeartbeats 1000000 in
theorem m10_loose {I : Nat → Nat → Int32} {L : Nat → Nat → Int64} {R : Nat → Nat → Option Nat} (hR : aRf R) {z : jZ} (hz : mmRep I L z) : aM mX11_loose [.ref 159] (sh0, I, L, R) (fun ans h' => ans = some (.int (oLoose z)) ∧ ∃ I' L', h' = (sh0, I', L', R) ∧ mmRep I' L' z ∧ mmK I I' ∧ mmKL L L') := by
  obtain ⟨hs, ho, h6, hl, hg, hw, hS, hcn, h12, h13, hpc, hcz, hpz, hpr, htx⟩ := id hz
  have hn := ho.1
  have hSl := jS_len z.1
  refine aM_of plX11_loose (Nat.le_of_ble_eq_true rfl) ?_
  refine aX_aload_n dX11_loose_0 rfl ?_
  refine aX_get (v := .int (bI (z.2.2.2.2.1))) dX11_loose_1 lfX11_147 s159 (congrArg Value.int (h13)) ?_
  refine bEq (tgt := 14) dX11_loose_4 (by decide) (fun c1 => ?_) (fun c1 => ?_)
  · refine aX_bipush (v := (-2)) dX11_loose_14 (by decide) ?_
    exact rI dX11_loose_16 rfl (⟨by rw [show oLoose z = -2 by unfold oLoose; rw [if_neg (by simp [c1])]], I, L, rfl, hz, fun _ _ _ => rfl, fun _ _ _ => rfl⟩)
  · refine aX_aload_n dX11_loose_7 rfl ?_
    refine aX_get (v := .int (nI (jLo z.1 z.2.1 (jChs z.1 z.2.1 z.2.2.1) z.2.2.1))) dX11_loose_8 lfX11_243 s159 (congrArg Value.int ((hpz c1).2.1)) ?_
    refine aX_goto (tgt := 16) dX11_loose_11 (by decide) ?_
    exact rI dX11_loose_16 rfl (⟨by rw [show oLoose z = nI (jLo z.1 z.2.1 (jChs z.1 z.2.1 z.2.2.1) z.2.2.1) by unfold oLoose; rw [if_pos c1]], I, L, rfl, hz, fun _ _ _ => rfl, fun _ _ _ => rfl⟩)
set_option maxHeartbeats 1000000 in
theorem m10_chosen {I : Nat → Nat → Int32} {L : Nat → Nat → Int64} {R : Nat → Nat → Option Nat} (hR : aRf R) {z : jZ} (hz : mmRep I L z) {x : Int32} : aM mX11_chosen [.ref 159, .int x] (sh0, I, L, R) (fun ans h' => ans = some (.int (oChosen z x)) ∧ ∃ I' L', h' = (sh0, I', L', R) ∧ mmRep I' L' z ∧ mmK I I' ∧ mmKL L L') := by
  obtain ⟨hs, ho, h6, hl, hg, hw, hS, hcn, h12, h13, hpc, hcz, hpz, hpr, htx⟩ := id hz
  have hn := ho.1
  have hSl := jS_len z.1
  refine aM_of plX11_chosen (Nat.le_of_ble_eq_true rfl) ?_
  refine aX_aload_n dX11_chosen_0 rfl ?_
  refine aX_iload_n dX11_chosen_1 rfl ?_
  refine cVp (As := [.int (x)]) (st := []) (v := .int (bI (jIx x (jS z.1).length))) dX11_chosen_2 kX11_chosen_184 s159 aEok0 rfl rfl (Nat.le_of_ble_eq_true rfl) (m_isSet hR hs ho hS hSl) ?_
  refine bNe (tgt := 12) dX11_chosen_5 (by decide) (fun c1 => ?_) (fun c1 => ?_)
  · obtain ⟨k, hk, rfl⟩ := jIx_t (by omega) c1
    refine aX_aload_n dX11_chosen_12 rfl ?_
    refine aX_get (v := .int (bI (z.2.2.2.1))) dX11_chosen_13 lfX11_143 s159 (congrArg Value.int (h12)) ?_
    refine bEq (tgt := 28) dX11_chosen_16 (by decide) (fun c2 => ?_) (fun c2 => ?_)
    · refine aX_bipush (v := (-9)) dX11_chosen_28 (by decide) ?_
      exact rI dX11_chosen_30 rfl (⟨by rw [show oChosen z (nI k) = -9 by unfold oChosen; rw [if_pos c1, if_neg (by simp [c2])]], I, L, rfl, hz, fun _ _ _ => rfl, fun _ _ _ => rfl⟩)
    · refine aX_aload_n dX11_chosen_19 rfl ?_
      refine aX_get dX11_chosen_20 lfX11_75 s159 (f159_24 hR) ?_
      refine aX_iload_n dX11_chosen_23 rfl ?_
      refine nIald (v := nI (jChs z.1 z.2.1 z.2.2.1 k)) dX11_chosen_24 s179 (by first | omega | exact Nat.lt_of_le_of_lt (Nat.mod_le _ _) (by omega)) (by decide) ((hcz c2).2 k hk) ?_
      refine aX_goto (tgt := 30) dX11_chosen_25 (by decide) ?_
      exact rI dX11_chosen_30 rfl (⟨by rw [show oChosen z (nI k) = nI (jChs z.1 z.2.1 z.2.2.1 k) by unfold oChosen; rw [if_pos c1, if_pos c2]; simp only [nI_clamp (show k < 2 ^ 31 by omega)]], I, L, rfl, hz, fun _ _ _ => rfl, fun _ _ _ => rfl⟩)
  · refine aX_iconst (v := (-1)) dX11_chosen_8 (by decide) ?_
    refine aX_goto (tgt := 30) dX11_chosen_9 (by decide) ?_
    exact rI dX11_chosen_30 rfl (⟨by rw [show oChosen z x = -1 by unfold oChosen; rw [if_neg (by simp [c1])]], I, L, rfl, hz, fun _ _ _ => rfl, fun _ _ _ => rfl⟩)
set_option maxHeartbeats 1000000 in
theorem m10_text {I : Nat → Nat → Int32} {L : Nat → Nat → Int64} {R : Nat → Nat → Option Nat} (hR : aRf R) {z : jZ} (hz : mmRep I L z) {x : Int32} : aM mX11_text [.ref 159, .int x] (sh0, I, L, R) (fun ans h' => ans = some (.int (oText z x)) ∧ ∃ I' L', h' = (sh0, I', L', R) ∧ mmRep I' L' z ∧ mmK I I' ∧ mmKL L L') := by
  obtain ⟨hs, ho, h6, hl, hg, hw, hS, hcn, h12, h13, hpc, hcz, hpz, hpr, htx⟩ := id hz
  have hn := ho.1
  have hSl := jS_len z.1
  have htl := htx.2.1
  refine aM_of plX11_text (Nat.le_of_ble_eq_true rfl) ?_
  refine aX_aload_n dX11_text_0 rfl ?_
  refine aX_iload_n dX11_text_1 rfl ?_
  refine aX_iconst (v := nI 0) dX11_text_2 (by decide) ?_
  refine aX_aload_n dX11_text_3 rfl ?_
  refine aX_get (v := .int (nI (z.2.2.2.2.2.length))) dX11_text_4 lfX11_294 s159 (congrArg Value.int (htx.1)) ?_
  refine aX_iconst (v := nI 1) dX11_text_7 (by decide) ?_
  refine aX_isub dX11_text_8 ?_
  refine cVp (As := [.int (x), .int (nI (0)), .int ((nI (z.2.2.2.2.2.length)) - (nI (1)))]) (st := []) (v := .int (bI (decide (nI (0) ≤ x) && decide (x ≤ (nI (z.2.2.2.2.2.length)) - (nI (1)))))) dX11_text_9 kX11_text_180 s159 aEok0 rfl rfl (Nat.le_of_ble_eq_true rfl) (m_isIn) ?_
  refine bEq (tgt := 24) dX11_text_12 (by decide) (fun c1 => ?_) (fun c1 => ?_)
  · have hix : jIx x z.2.2.2.2.2.length = false := by rw [← isIn_jIx (by omega)]; exact c1
    refine aX_bipush (v := (-9)) dX11_text_24 (by decide) ?_
    exact rI dX11_text_26 rfl (⟨by rw [show oText z x = -9 by unfold oText; rw [if_neg (by rw [hix]; simp)]], I, L, rfl, hz, fun _ _ _ => rfl, fun _ _ _ => rfl⟩)
  · have hix : jIx x z.2.2.2.2.2.length = true := by rw [← isIn_jIx (by omega)]; exact c1
    obtain ⟨i, hi, rfl⟩ := jIx_t (by omega) hix
    obtain ⟨c, hcc⟩ : ∃ c, z.2.2.2.2.2[i]? = some c := ⟨_, List.getElem?_eq_getElem hi⟩
    refine aX_aload_n dX11_text_15 rfl ?_
    refine aX_get dX11_text_16 lfX11_119 s159 (f159_43 hR) ?_
    refine aX_iload_n dX11_text_19 rfl ?_
    refine nBald (v := nI (c)) dX11_text_20 s193 (by first | omega | exact Nat.lt_of_le_of_lt (Nat.mod_le _ _) (by omega)) (by decide) ((htx.2.2 i c hcc).1) ?_
    refine aX_goto (tgt := 26) dX11_text_21 (by decide) ?_
    exact rI dX11_text_26 rfl (⟨by rw [show oText z (nI i) = nI c by unfold oText; rw [if_pos hix]; simp only [nI_clamp (show i < 2 ^ 31 by omega)]; rw [List.getD_eq_getElem?_getD, hcc]; rfl], I, L, rfl, hz, fun _ _ _ => rfl, fun _ _ _ => rfl⟩)
def rFu (s : jN) (fr to i : Nat) : Prop := fr ≤ (if i = s.1 then fr else s.2.2.1 i) ∧ (if i = s.1 then fr else s.2.2.1 i) < to ∧ 6 ≤ jSnd s (if i = s.1 then fr else s.2.2.1 i)
theorem jFullAt_ex {s : jN} {fr to : Nat} : ∀ n, jFullAt s fr to n = true → ∃ i, i < n ∧ fr < s.2.2.1 i ∧ s.2.2.1 i < to ∧ 6 ≤ jSnd s (s.2.2.1 i)
  | 0, h => by cases h
  | n + 1, h => by
    have h' : (jFullAt s fr to n || (decide (fr < s.2.2.1 n) && decide (s.2.2.1 n < to) && decide (6 ≤ jSnd s (s.2.2.1 n)))) = true := h
    rcases Bool.or_eq_true _ _ ▸ h' with g | g
    · obtain ⟨i, a, b⟩ := jFullAt_ex n g; exact ⟨i, by omega, b⟩
    · simp only [Bool.and_eq_true, decide_eq_true_eq] at g
      exact ⟨n, by omega, g.1.1, g.1.2, g.2⟩
theorem rFu_t {s : jN} {fr to i : Nat} (hi : i ≤ s.1) (h : rFu s fr to i) : jFull s fr to = true := by
  unfold rFu at h
  by_cases e : i = s.1
  · rw [if_pos e] at h
    unfold jFull; simp [h.2.2]
  · rw [if_neg e] at h
    by_cases g : s.2.2.1 i = fr
    · rw [g] at h
      unfold jFull; simp [h.2.2]
    · exact jFull_at (show i < s.1 by omega) (by omega) h.2.1 h.2.2
theorem rFu_f {s : jN} {fr to : Nat} (h16 : s.1 < 16) (hft : fr < to) (h : ∀ i, i < s.1 + 1 → ¬ rFu s fr to i) : jFull s fr to = false := by
  refine Bool.eq_false_iff.mpr (fun g => ?_)
  unfold jFull at g
  simp only [Bool.or_eq_true, decide_eq_true_eq] at g
  rcases g with (g | g) | g
  · omega
  · refine h s.1 (by omega) ?_
    unfold rFu; rw [if_pos rfl]; exact ⟨Nat.le_refl _, hft, g⟩
  · obtain ⟨i, a, b, c, d⟩ := jFullAt_ex _ g
    refine h i (by omega) ?_
    unfold rFu; rw [if_neg (by omega)]; exact ⟨by omega, c, d⟩
theorem mNv_eq {a b c : Int32} : (decide (nI 0 ≤ a) && decide (a ≤ nI 127)) = true → (decide (nI 0 ≤ b) && decide (b ≤ nI 9998)) = true → (decide (b + nI 1 ≤ c) && decide (c ≤ nI 9999)) = jNv a b c := by
  intro h1 h2
  obtain ⟨ka, hka, rfl⟩ := (isIn_lt (by decide)).mp h1
  obtain ⟨kb, hkb, rfl⟩ := (isIn_lt (by decide)).mp h2
  unfold jNv
  rw [decide_eq_false (nI_pos (show ka < 2 ^ 31 by omega)), decide_eq_false (fun y => absurd ((nI_ltI (by omega) (by omega)).mp y) (by omega) : ¬ nI 127 < nI ka), decide_eq_false (nI_pos (show kb < 2 ^ 31 by omega))]
  have e : decide (nI kb + nI 1 ≤ c) = !decide (c ≤ nI kb) := by
    have e1 : nI kb + nI 1 = iZ ((kb : Int) + 1) := by rw [nZ, nZ, iZ_add]; rfl
    have c1 : (nI kb + nI 1 ≤ c) ↔ (kb : Int) + 1 ≤ c.toInt := by rw [e1, Int32.le_iff_toInt_le, iZ_toInt (by omega) (by omega)]
    have c2 : (c ≤ nI kb) ↔ c.toInt ≤ (kb : Int) := by rw [nZ, Int32.le_iff_toInt_le, iZ_toInt (by omega) (by omega)]
    by_cases g : c.toInt ≤ (kb : Int)
    · rw [decide_eq_true (c2.mpr g), decide_eq_false (fun y => absurd (c1.mp y) (by omega))]; rfl
    · rw [decide_eq_false (fun y => g (c2.mp y)), decide_eq_true (c1.mpr (by omega))]; rfl
  rw [e]; rfl
theorem mNv_f {a b c : Int32} (h : (decide (nI 0 ≤ a) && decide (a ≤ nI 127)) = false ∨ (decide (nI 0 ≤ b) && decide (b ≤ nI 9998)) = false) : jNv a b c = false := by
  refine Bool.eq_false_iff.mpr (fun g => ?_)
  unfold jNv at g
  simp only [Bool.and_eq_true, Bool.not_eq_true', decide_eq_false_iff_not, decide_eq_true_eq] at g
  obtain ⟨⟨⟨⟨g1, g2⟩, g3⟩, g4⟩, g5⟩ := g
  obtain ⟨ka, hka, rfl⟩ := nI_of g1
  obtain ⟨kb, hkb, rfl⟩ := nI_of g3
  obtain ⟨kc, hkc, rfl⟩ := nI_of (x := c) (fun y => g4 (Int32.le_of_lt (Int32.lt_of_lt_of_le y (nI_pos' hkb))))
  have b1 : ka ≤ 127 := Nat.le_of_not_lt (fun y => g2 ((nI_ltI (by omega) hka).mpr y))
  have b2 : kb < kc := Nat.lt_of_not_le (fun y => g4 ((nI_leI hkc hkb).mpr y))
  have b3 : kc ≤ 9999 := (nI_leI hkc (by omega)).mp g5
  rcases h with h | h
  · rw [(isIn_lt (by decide)).mpr ⟨ka, b1, rfl⟩] at h; cases h
  · rw [(isIn_lt (by decide)).mpr ⟨kb, by omega, rfl⟩] at h; cases h
set_option maxHeartbeats 1000000 in
theorem ml_noteIn {I : Nat → Nat → Int32} {L : Nat → Nat → Int64} {R : Nat → Nat → Option Nat} (hR : aRf R) {s : jN} (hs : mnRep I s) (ho : jOk s) {ka kb kc i tt : Nat} (htt : tt ≤ 9999) {Q : Option Value → aH → Prop} (kk : aX mX11_note aE0 (sh0, I, L, R) 140 [(0, .ref 159), (1, .int (nI ka)), (2, .int (nI kb)), (3, .int (nI kc)), (4, .int (nI i)), (5, .int (nI tt)), (6, .int (nI (jSnd s tt))), (7, .int (nI s.1))] [] 0 0 Q) : ∀ (k9 j : Nat), j ≤ s.1 → s.1 - j = k9 → aX mX11_note aE0 (sh0, I, L, R) 91 [(0, .ref 159), (1, .int (nI (ka))), (2, .int (nI (kb))), (3, .int (nI (kc))), (4, .int (nI (i))), (5, .int (nI (tt))), (6, .int (nI (jCnt (fun i => jOn s i tt) j))), (7, .int (nI (j)))] [] 0 0 Q := by
  intro k9
  induction k9 using Nat.strongRecOn with
  | _ k9 ih =>
    intro j hi hk9  
    have hn := ho.1
    refine aX_iload dX11_note_91 rfl ?_
    refine aX_aload_n dX11_note_93 rfl ?_
    refine aX_get (v := .int (nI (s.1))) dX11_note_94 lfX11_150 s159 (congrArg Value.int (hs.1)) ?_
    refine nGe (tgt := 140) dX11_note_97 (by decide) (by first | omega | exact Nat.lt_of_le_of_lt (Nat.mod_le _ _) (by omega)) (by first | omega | exact Nat.lt_of_le_of_lt (Nat.mod_le _ _) (by omega)) (fun c1 => ?_) (fun c1 => ?_)
    · obtain rfl : j = s.1 := by omega
      exact kk
    · have hb := ho.2 j c1
      refine aX_iload dX11_note_100 rfl ?_
      refine aX_aload_n dX11_note_102 rfl ?_
      refine aX_get dX11_note_103 lfX11_13 s159 (f159_2 hR) ?_
      refine aX_iload dX11_note_106 rfl ?_
      refine nIald (v := nI (s.2.2.1 j)) dX11_note_108 s161 (by first | omega | exact Nat.lt_of_le_of_lt (Nat.mod_le _ _) (by omega)) (by decide) ((hs.2 j (by omega)).2.1) ?_
      refine aX_iload dX11_note_109 rfl ?_
      refine nGt (tgt := 130) dX11_note_111 (by decide) (by first | omega | exact Nat.lt_of_le_of_lt (Nat.mod_le _ _) (by omega)) (by first | omega | exact Nat.lt_of_le_of_lt (Nat.mod_le _ _) (by omega)) (fun c2 => ?_) (fun c2 => ?_)
      · have hon : jOn s j tt = false := by unfold jOn; simp; omega
        refine aX_iconst (v := nI 0) dX11_note_130 (by decide) ?_
        refine nAdd dX11_note_131 ?_
        refine aX_istore (lv' := [(0, .ref 159), (1, .int (nI (ka))), (2, .int (nI (kb))), (3, .int (nI (kc))), (4, .int (nI (i))), (5, .int (nI (tt))), (6, .int (nI ((jCnt (fun i => jOn s i tt) j) + 0))), (7, .int (nI (j)))]) dX11_note_132 (by decide) rfl ?_
        refine nInc (lv' := [(0, .ref 159), (1, .int (nI (ka))), (2, .int (nI (kb))), (3, .int (nI (kc))), (4, .int (nI (i))), (5, .int (nI (tt))), (6, .int (nI ((jCnt (fun i => jOn s i tt) j) + 0))), (7, .int (nI (j + 1)))]) dX11_note_134 rfl rfl (by decide) rfl ?_
        refine aX_goto (tgt := 91) dX11_note_137 (by decide) ?_
        refine aX_lv (lv' := [(0, .ref 159), (1, .int (nI ka)), (2, .int (nI kb)), (3, .int (nI kc)), (4, .int (nI i)), (5, .int (nI tt)), (6, .int (nI (jCnt (fun i => jOn s i tt) (j + 1)))), (7, .int (nI (j + 1)))]) [0, 1, 2, 3, 4, 5, 6, 7] (by rw [jCnt_f (f := fun i => jOn s i tt) hon]; rfl) ?_
        exact ih (s.1 - (j + 1)) (by omega) (j + 1) (by omega) rfl
      · refine aX_aload_n dX11_note_114 rfl ?_
        refine aX_get dX11_note_115 lfX11_16 s159 (f159_3 hR) ?_
        refine aX_iload dX11_note_118 rfl ?_
        refine nIald (v := nI (s.2.2.2.1 j)) dX11_note_120 s162 (by first | omega | exact Nat.lt_of_le_of_lt (Nat.mod_le _ _) (by omega)) (by decide) ((hs.2 j (by omega)).2.2.1) ?_
        refine aX_iload dX11_note_121 rfl ?_
        refine nLe (tgt := 130) dX11_note_123 (by decide) (by first | omega | exact Nat.lt_of_le_of_lt (Nat.mod_le _ _) (by omega)) (by first | omega | exact Nat.lt_of_le_of_lt (Nat.mod_le _ _) (by omega)) (fun c3 => ?_) (fun c3 => ?_)
        · have hon : jOn s j tt = false := by unfold jOn; simp; omega
          refine aX_iconst (v := nI 0) dX11_note_130 (by decide) ?_
          refine nAdd dX11_note_131 ?_
          refine aX_istore (lv' := [(0, .ref 159), (1, .int (nI (ka))), (2, .int (nI (kb))), (3, .int (nI (kc))), (4, .int (nI (i))), (5, .int (nI (tt))), (6, .int (nI ((jCnt (fun i => jOn s i tt) j) + 0))), (7, .int (nI (j)))]) dX11_note_132 (by decide) rfl ?_
          refine nInc (lv' := [(0, .ref 159), (1, .int (nI (ka))), (2, .int (nI (kb))), (3, .int (nI (kc))), (4, .int (nI (i))), (5, .int (nI (tt))), (6, .int (nI ((jCnt (fun i => jOn s i tt) j) + 0))), (7, .int (nI (j + 1)))]) dX11_note_134 rfl rfl (by decide) rfl ?_
          refine aX_goto (tgt := 91) dX11_note_137 (by decide) ?_
          refine aX_lv (lv' := [(0, .ref 159), (1, .int (nI ka)), (2, .int (nI kb)), (3, .int (nI kc)), (4, .int (nI i)), (5, .int (nI tt)), (6, .int (nI (jCnt (fun i => jOn s i tt) (j + 1)))), (7, .int (nI (j + 1)))]) [0, 1, 2, 3, 4, 5, 6, 7] (by rw [jCnt_f (f := fun i => jOn s i tt) hon]; rfl) ?_
          exact ih (s.1 - (j + 1)) (by omega) (j + 1) (by omega) rfl
        · have hon : jOn s j tt = true := by unfold jOn; simp; omega
          refine aX_iconst (v := nI 1) dX11_note_126 (by decide) ?_
          refine aX_goto (tgt := 131) dX11_note_127 (by decide) ?_
          refine nAdd dX11_note_131 ?_
          refine aX_istore (lv' := [(0, .ref 159), (1, .int (nI (ka))), (2, .int (nI (kb))), (3, .int (nI (kc))), (4, .int (nI (i))), (5, .int (nI (tt))), (6, .int (nI ((jCnt (fun i => jOn s i tt) j) + 1))), (7, .int (nI (j)))]) dX11_note_132 (by decide) rfl ?_
          refine nInc (lv' := [(0, .ref 159), (1, .int (nI (ka))), (2, .int (nI (kb))), (3, .int (nI (kc))), (4, .int (nI (i))), (5, .int (nI (tt))), (6, .int (nI ((jCnt (fun i => jOn s i tt) j) + 1))), (7, .int (nI (j + 1)))]) dX11_note_134 rfl rfl (by decide) rfl ?_
          refine aX_goto (tgt := 91) dX11_note_137 (by decide) ?_
          refine aX_lv (lv' := [(0, .ref 159), (1, .int (nI ka)), (2, .int (nI kb)), (3, .int (nI kc)), (4, .int (nI i)), (5, .int (nI tt)), (6, .int (nI (jCnt (fun i => jOn s i tt) (j + 1)))), (7, .int (nI (j + 1)))]) [0, 1, 2, 3, 4, 5, 6, 7] (by rw [jCnt_t (f := fun i => jOn s i tt) hon]; rfl) ?_
          exact ih (s.1 - (j + 1)) (by omega) (j + 1) (by omega) rfl
set_option maxHeartbeats 1000000 in
theorem ml_note {I : Nat → Nat → Int32} {L : Nat → Nat → Int64} {R : Nat → Nat → Option Nat} (hR : aRf R) {s : jN} (hs : mnRep I s) (ho : jOk s) {ka kb kc : Nat} (h16 : s.1 < 16) (hka : ka ≤ 127) (hbc : kb < kc) (hkc : kc ≤ 9999) {Q : Option Value → aH → Prop} (kf : jFull s kb kc = true → Q (some (.int (-3))) (sh0, I, L, R)) (kk : jFull s kb kc = false → aX mX11_note aE0 (sh0, I, L, R) 168 [(0, .ref 159), (1, .int (nI ka)), (2, .int (nI kb)), (3, .int (nI kc)), (4, .int (nI (s.1 + 1)))] [] 0 0 Q) : ∀ (k9 i : Nat), i ≤ s.1 + 1 → (s.1 + 1) - i = k9 → (∀ j, j < i → ¬ rFu s kb kc j) → aX mX11_note aE0 (sh0, I, L, R) 54 [(0, .ref 159), (1, .int (nI (ka))), (2, .int (nI (kb))), (3, .int (nI (kc))), (4, .int (nI (i)))] [] 0 0 Q := by
  intro k9
  induction k9 using Nat.strongRecOn with
  | _ k9 ih =>
    intro i hi hk9  hno
    have hn := ho.1
    refine aX_iload dX11_note_54 rfl ?_
    refine aX_aload_n dX11_note_56 rfl ?_
    refine aX_get (v := .int (nI (s.1))) dX11_note_57 lfX11_150 s159 (congrArg Value.int (hs.1)) ?_
    refine nGt (tgt := 168) dX11_note_60 (by decide) (by first | omega | exact Nat.lt_of_le_of_lt (Nat.mod_le _ _) (by omega)) (by first | omega | exact Nat.lt_of_le_of_lt (Nat.mod_le _ _) (by omega)) (fun c1 => ?_) (fun c1 => ?_)
    · obtain rfl : i = s.1 + 1 := by omega
      exact kk (rFu_f h16 hbc hno)
    · refine aX_iload dX11_note_63 rfl ?_
      refine aX_aload_n dX11_note_65 rfl ?_
      refine aX_get (v := .int (nI (s.1))) dX11_note_66 lfX11_150 s159 (congrArg Value.int (hs.1)) ?_
      refine nNe (tgt := 76) dX11_note_69 (by decide) (by first | omega | exact Nat.lt_of_le_of_lt (Nat.mod_le _ _) (by omega)) (by first | omega | exact Nat.lt_of_le_of_lt (Nat.mod_le _ _) (by omega)) (fun c2 => ?_) (fun c2 => ?_)
      · have hb := ho.2 i (by omega)
        have hte : (if i = s.1 then kb else s.2.2.1 i) = s.2.2.1 i := if_neg (by omega)
        refine aX_aload_n dX11_note_76 rfl ?_
        refine aX_get dX11_note_77 lfX11_13 s159 (f159_2 hR) ?_
        refine aX_iload dX11_note_80 rfl ?_
        refine nIald (v := nI (s.2.2.1 i)) dX11_note_82 s161 (by first | omega | exact Nat.lt_of_le_of_lt (Nat.mod_le _ _) (by omega)) (by decide) ((hs.2 i (by omega)).2.1) ?_
        refine aX_istore (lv' := [(0, .ref 159), (1, .int (nI (ka))), (2, .int (nI (kb))), (3, .int (nI (kc))), (4, .int (nI (i))), (5, .int (nI (s.2.2.1 i)))]) dX11_note_83 (by decide) rfl ?_
        refine aX_iconst (v := nI 0) dX11_note_85 (by decide) ?_
        refine aX_istore (lv' := [(0, .ref 159), (1, .int (nI (ka))), (2, .int (nI (kb))), (3, .int (nI (kc))), (4, .int (nI (i))), (5, .int (nI (s.2.2.1 i))), (6, .int (nI (0)))]) dX11_note_86 (by decide) rfl ?_
        refine aX_iconst (v := nI 0) dX11_note_88 (by decide) ?_
        refine aX_istore (lv' := [(0, .ref 159), (1, .int (nI (ka))), (2, .int (nI (kb))), (3, .int (nI (kc))), (4, .int (nI (i))), (5, .int (nI (s.2.2.1 i))), (6, .int (nI (0))), (7, .int (nI (0)))]) dX11_note_89 (by decide) rfl ?_
        refine ml_noteIn hR hs ho (tt := s.2.2.1 i) (by omega) ?_ _ 0 (by omega) rfl
        have hsl := jSnd_le s (s.2.2.1 i)
        refine aX_iload dX11_note_140 rfl ?_
        refine aX_iload_n dX11_note_142 rfl ?_
        refine nLt (tgt := 162) dX11_note_143 (by decide) (by first | omega | exact Nat.lt_of_le_of_lt (Nat.mod_le _ _) (by omega)) (by first | omega | exact Nat.lt_of_le_of_lt (Nat.mod_le _ _) (by omega)) (fun c1 => ?_) (fun c1 => ?_)
        · refine nInc (lv' := [(0, .ref 159), (1, .int (nI (ka))), (2, .int (nI (kb))), (3, .int (nI (kc))), (4, .int (nI (i + 1))), (5, .int (nI (s.2.2.1 i))), (6, .int (nI (jSnd s (s.2.2.1 i)))), (7, .int (nI (s.1)))]) dX11_note_162 rfl rfl (by decide) rfl ?_
          refine aX_goto (tgt := 54) dX11_note_165 (by decide) ?_
          refine aX_lv (lv' := [(0, .ref 159), (1, .int (nI (ka))), (2, .int (nI (kb))), (3, .int (nI (kc))), (4, .int (nI (i + 1)))]) [0, 1, 2, 3, 4] rfl ?_
          exact ih (s.1 + 1 - (i + 1)) (by omega) (i + 1) (by omega) rfl (fun j hj => by
            by_cases e : j = i
            · subst e; intro hr; unfold rFu at hr; rw [hte] at hr; omega
            · exact hno j (by omega))
        · refine aX_iload dX11_note_146 rfl ?_
          refine aX_iload_n dX11_note_148 rfl ?_
          refine nGe (tgt := 162) dX11_note_149 (by decide) (by first | omega | exact Nat.lt_of_le_of_lt (Nat.mod_le _ _) (by omega)) (by first | omega | exact Nat.lt_of_le_of_lt (Nat.mod_le _ _) (by omega)) (fun c2 => ?_) (fun c2 => ?_)
          · refine nInc (lv' := [(0, .ref 159), (1, .int (nI (ka))), (2, .int (nI (kb))), (3, .int (nI (kc))), (4, .int (nI (i + 1))), (5, .int (nI (s.2.2.1 i))), (6, .int (nI (jSnd s (s.2.2.1 i)))), (7, .int (nI (s.1)))]) dX11_note_162 rfl rfl (by decide) rfl ?_
            refine aX_goto (tgt := 54) dX11_note_165 (by decide) ?_
            refine aX_lv (lv' := [(0, .ref 159), (1, .int (nI (ka))), (2, .int (nI (kb))), (3, .int (nI (kc))), (4, .int (nI (i + 1)))]) [0, 1, 2, 3, 4] rfl ?_
            exact ih (s.1 + 1 - (i + 1)) (by omega) (i + 1) (by omega) rfl (fun j hj => by
              by_cases e : j = i
              · subst e; intro hr; unfold rFu at hr; rw [hte] at hr; omega
              · exact hno j (by omega))
          · refine aX_iload dX11_note_152 rfl ?_
            refine aX_bipush (v := nI 6) dX11_note_154 (by decide) ?_
            refine nLt (tgt := 162) dX11_note_156 (by decide) (by first | omega | exact Nat.lt_of_le_of_lt (Nat.mod_le _ _) (by omega)) (by first | omega | exact Nat.lt_of_le_of_lt (Nat.mod_le _ _) (by omega)) (fun c3 => ?_) (fun c3 => ?_)
            · refine nInc (lv' := [(0, .ref 159), (1, .int (nI (ka))), (2, .int (nI (kb))), (3, .int (nI (kc))), (4, .int (nI (i + 1))), (5, .int (nI (s.2.2.1 i))), (6, .int (nI (jSnd s (s.2.2.1 i)))), (7, .int (nI (s.1)))]) dX11_note_162 rfl rfl (by decide) rfl ?_
              refine aX_goto (tgt := 54) dX11_note_165 (by decide) ?_
              refine aX_lv (lv' := [(0, .ref 159), (1, .int (nI (ka))), (2, .int (nI (kb))), (3, .int (nI (kc))), (4, .int (nI (i + 1)))]) [0, 1, 2, 3, 4] rfl ?_
              exact ih (s.1 + 1 - (i + 1)) (by omega) (i + 1) (by omega) rfl (fun j hj => by
                by_cases e : j = i
                · subst e; intro hr; unfold rFu at hr; rw [hte] at hr; omega
                · exact hno j (by omega))
            · refine aX_bipush (v := (-3)) dX11_note_159 (by decide) ?_
              exact rI dX11_note_161 rfl (kf (rFu_t (i := i) (by omega) (by unfold rFu; rw [hte]; omega)))
      · have hte : (if i = s.1 then kb else s.2.2.1 i) = kb := if_pos (by omega)
        refine aX_iload_n dX11_note_72 rfl ?_
        refine aX_goto (tgt := 83) dX11_note_73 (by decide) ?_
        refine aX_istore (lv' := [(0, .ref 159), (1, .int (nI (ka))), (2, .int (nI (kb))), (3, .int (nI (kc))), (4, .int (nI (i))), (5, .int (nI (kb)))]) dX11_note_83 (by decide) rfl ?_
        refine aX_iconst (v := nI 0) dX11_note_85 (by decide) ?_
        refine aX_istore (lv' := [(0, .ref 159), (1, .int (nI (ka))), (2, .int (nI (kb))), (3, .int (nI (kc))), (4, .int (nI (i))), (5, .int (nI (kb))), (6, .int (nI (0)))]) dX11_note_86 (by decide) rfl ?_
        refine aX_iconst (v := nI 0) dX11_note_88 (by decide) ?_
        refine aX_istore (lv' := [(0, .ref 159), (1, .int (nI (ka))), (2, .int (nI (kb))), (3, .int (nI (kc))), (4, .int (nI (i))), (5, .int (nI (kb))), (6, .int (nI (0))), (7, .int (nI (0)))]) dX11_note_89 (by decide) rfl ?_
        refine ml_noteIn hR hs ho (tt := kb) (by omega) ?_ _ 0 (by omega) rfl
        have hsl := jSnd_le s (kb)
        refine aX_iload dX11_note_140 rfl ?_
        refine aX_iload_n dX11_note_142 rfl ?_
        refine nLt (tgt := 162) dX11_note_143 (by decide) (by first | omega | exact Nat.lt_of_le_of_lt (Nat.mod_le _ _) (by omega)) (by first | omega | exact Nat.lt_of_le_of_lt (Nat.mod_le _ _) (by omega)) (fun c1 => ?_) (fun c1 => ?_)
        · refine nInc (lv' := [(0, .ref 159), (1, .int (nI (ka))), (2, .int (nI (kb))), (3, .int (nI (kc))), (4, .int (nI (i + 1))), (5, .int (nI (kb))), (6, .int (nI (jSnd s (kb)))), (7, .int (nI (s.1)))]) dX11_note_162 rfl rfl (by decide) rfl ?_
          refine aX_goto (tgt := 54) dX11_note_165 (by decide) ?_
          refine aX_lv (lv' := [(0, .ref 159), (1, .int (nI (ka))), (2, .int (nI (kb))), (3, .int (nI (kc))), (4, .int (nI (i + 1)))]) [0, 1, 2, 3, 4] rfl ?_
          exact ih (s.1 + 1 - (i + 1)) (by omega) (i + 1) (by omega) rfl (fun j hj => by
            by_cases e : j = i
            · subst e; intro hr; unfold rFu at hr; rw [hte] at hr; omega
            · exact hno j (by omega))
        · refine aX_iload dX11_note_146 rfl ?_
          refine aX_iload_n dX11_note_148 rfl ?_
          refine nGe (tgt := 162) dX11_note_149 (by decide) (by first | omega | exact Nat.lt_of_le_of_lt (Nat.mod_le _ _) (by omega)) (by first | omega | exact Nat.lt_of_le_of_lt (Nat.mod_le _ _) (by omega)) (fun c2 => ?_) (fun c2 => ?_)
          · refine nInc (lv' := [(0, .ref 159), (1, .int (nI (ka))), (2, .int (nI (kb))), (3, .int (nI (kc))), (4, .int (nI (i + 1))), (5, .int (nI (kb))), (6, .int (nI (jSnd s (kb)))), (7, .int (nI (s.1)))]) dX11_note_162 rfl rfl (by decide) rfl ?_
            refine aX_goto (tgt := 54) dX11_note_165 (by decide) ?_
            refine aX_lv (lv' := [(0, .ref 159), (1, .int (nI (ka))), (2, .int (nI (kb))), (3, .int (nI (kc))), (4, .int (nI (i + 1)))]) [0, 1, 2, 3, 4] rfl ?_
            exact ih (s.1 + 1 - (i + 1)) (by omega) (i + 1) (by omega) rfl (fun j hj => by
              by_cases e : j = i
              · subst e; intro hr; unfold rFu at hr; rw [hte] at hr; omega
              · exact hno j (by omega))
          · refine aX_iload dX11_note_152 rfl ?_
            refine aX_bipush (v := nI 6) dX11_note_154 (by decide) ?_
            refine nLt (tgt := 162) dX11_note_156 (by decide) (by first | omega | exact Nat.lt_of_le_of_lt (Nat.mod_le _ _) (by omega)) (by first | omega | exact Nat.lt_of_le_of_lt (Nat.mod_le _ _) (by omega)) (fun c3 => ?_) (fun c3 => ?_)
            · refine nInc (lv' := [(0, .ref 159), (1, .int (nI (ka))), (2, .int (nI (kb))), (3, .int (nI (kc))), (4, .int (nI (i + 1))), (5, .int (nI (kb))), (6, .int (nI (jSnd s (kb)))), (7, .int (nI (s.1)))]) dX11_note_162 rfl rfl (by decide) rfl ?_
              refine aX_goto (tgt := 54) dX11_note_165 (by decide) ?_
              refine aX_lv (lv' := [(0, .ref 159), (1, .int (nI (ka))), (2, .int (nI (kb))), (3, .int (nI (kc))), (4, .int (nI (i + 1)))]) [0, 1, 2, 3, 4] rfl ?_
              exact ih (s.1 + 1 - (i + 1)) (by omega) (i + 1) (by omega) rfl (fun j hj => by
                by_cases e : j = i
                · subst e; intro hr; unfold rFu at hr; rw [hte] at hr; omega
                · exact hno j (by omega))
            · refine aX_bipush (v := (-3)) dX11_note_159 (by decide) ?_
              exact rI dX11_note_161 rfl (kf (rFu_t (i := i) (by omega) (by unfold rFu; rw [hte]; omega)))
set_option maxHeartbeats 1000000 in
theorem m10_note {I : Nat → Nat → Int32} {L : Nat → Nat → Int64} {R : Nat → Nat → Option Nat} (hR : aRf R) {z : jZ} (hz : mmRep I L z) {a b c : Int32} : aM mX11_note [.ref 159, .int a, .int b, .int c] (sh0, I, L, R) (fun ans h' => ans = some (.int (oNote z a b c).1) ∧ ∃ I' L', h' = (sh0, I', L', R) ∧ mmRep I' L' (oNote z a b c).2 ∧ mmK I I' ∧ mmKL L L') := by
  obtain ⟨hs, ho, h6, hl, hg, hw, hS, hcn, h12, h13, hpc, hcz, hpz, hpr, htx⟩ := id hz
  have hn := ho.1
  have hSl := jS_len z.1
  refine aM_of plX11_note (Nat.le_of_ble_eq_true rfl) ?_
  refine aX_aload_n dX11_note_0 rfl ?_
  refine aX_iload_n dX11_note_1 rfl ?_
  refine aX_iconst (v := nI 0) dX11_note_2 (by decide) ?_
  refine aX_bipush (v := nI 127) dX11_note_3 (by decide) ?_
  refine cVp (As := [.int (a), .int (nI (0)), .int (nI (127))]) (st := []) (v := .int (bI (decide (nI (0) ≤ a) && decide (a ≤ nI (127))))) dX11_note_5 kX11_note_180 s159 aEok0 rfl rfl (Nat.le_of_ble_eq_true rfl) (m_isIn) ?_
  refine bEq (tgt := 37) dX11_note_8 (by decide) (fun c1 => ?_) (fun c1 => ?_)
  · refine aX_iconst (v := (-1)) dX11_note_37 (by decide) ?_
    exact rI dX11_note_38 rfl (by rw [show oNote z a b c = (-1, z) by unfold oNote; rw [if_neg (by rw [show jNv a b c = false from mNv_f (Or.inl c1)]; decide)]]; exact ⟨rfl, I, L, rfl, hz, fun _ _ _ => rfl, fun _ _ _ => rfl⟩)
  · refine aX_aload_n dX11_note_11 rfl ?_
    refine aX_iload_n dX11_note_12 rfl ?_
    refine aX_iconst (v := nI 0) dX11_note_13 (by decide) ?_
    refine aX_sipush (v := nI 9998) dX11_note_14 (by decide) ?_
    refine cVp (As := [.int (b), .int (nI (0)), .int (nI (9998))]) (st := []) (v := .int (bI (decide (nI (0) ≤ b) && decide (b ≤ nI (9998))))) dX11_note_17 kX11_note_180 s159 aEok0 rfl rfl (Nat.le_of_ble_eq_true rfl) (m_isIn) ?_
    refine bEq (tgt := 37) dX11_note_20 (by decide) (fun c2 => ?_) (fun c2 => ?_)
    · refine aX_iconst (v := (-1)) dX11_note_37 (by decide) ?_
      exact rI dX11_note_38 rfl (by rw [show oNote z a b c = (-1, z) by unfold oNote; rw [if_neg (by rw [show jNv a b c = false from mNv_f (Or.inr c2)]; decide)]]; exact ⟨rfl, I, L, rfl, hz, fun _ _ _ => rfl, fun _ _ _ => rfl⟩)
    · refine aX_aload_n dX11_note_23 rfl ?_
      refine aX_iload_n dX11_note_24 rfl ?_
      refine aX_iload_n dX11_note_25 rfl ?_
      refine aX_iconst (v := nI 1) dX11_note_26 (by decide) ?_
      refine aX_iadd dX11_note_27 ?_
      refine aX_sipush (v := nI 9999) dX11_note_28 (by decide) ?_
      refine cVp (As := [.int (c), .int (b + (nI (1))), .int (nI (9999))]) (st := []) (v := .int (bI (decide (b + (nI (1)) ≤ c) && decide (c ≤ nI (9999))))) dX11_note_31 kX11_note_180 s159 aEok0 rfl rfl (Nat.le_of_ble_eq_true rfl) (m_isIn) ?_
      refine bNe (tgt := 39) dX11_note_34 (by decide) (fun c3 => ?_) (fun c3 => ?_)
      · have hv : jNv a b c = true := by rw [← mNv_eq c1 c2]; exact c3
        obtain ⟨ka, hka, rfl⟩ := (isIn_lt (by decide)).mp c1
        obtain ⟨kb, hkb, rfl⟩ := (isIn_lt (by decide)).mp c2
        have hv2 := hv
        unfold jNv at hv2
        simp only [Bool.and_eq_true, Bool.not_eq_true', decide_eq_false_iff_not, decide_eq_true_eq] at hv2
        obtain ⟨kc, hkc, rfl⟩ := nI_of (x := c) (fun y => hv2.1.2 (Int32.le_of_lt (Int32.lt_of_lt_of_le y (nI_pos' (by omega)))))
        have b2 : kb < kc := Nat.lt_of_not_le (fun y => hv2.1.2 ((nI_leI hkc (by omega)).mpr y))
        have b3 : kc ≤ 9999 := (nI_leI hkc (by omega)).mp hv2.2
        have hvo : ∀ f, jFull z.1 kb kc = f → oNote z (nI ka) (nI kb) (nI kc) = if f then (-3, z) else (nI z.1.1, jPush z.1 ka kb kc, z.2.1, z.2.2.1, false, false, z.2.2.2.2.2) := fun f hf => by
          unfold oNote; rw [if_pos hv]; simp only [nI_clamp (show ka < 2 ^ 31 by omega), nI_clamp (show kb < 2 ^ 31 by omega), nI_clamp hkc, hf]
        refine aX_aload_n dX11_note_39 rfl ?_
        refine aX_get (v := .int (nI (z.1.1))) dX11_note_40 lfX11_150 s159 (congrArg Value.int (hs.1)) ?_
        refine aX_bipush (v := nI 16) dX11_note_43 (by decide) ?_
        refine nNe (tgt := 51) dX11_note_45 (by decide) (by first | omega | exact Nat.lt_of_le_of_lt (Nat.mod_le _ _) (by omega)) (by first | omega | exact Nat.lt_of_le_of_lt (Nat.mod_le _ _) (by omega)) (fun c4 => ?_) (fun c4 => ?_)
        · have h16 : z.1.1 < 16 := by omega
          refine aX_iconst (v := nI 0) dX11_note_51 (by decide) ?_
          refine aX_istore (lv' := [(0, .ref 159), (1, .int (nI (ka))), (2, .int (nI (kb))), (3, .int (nI (kc))), (4, .int (nI (0)))]) dX11_note_52 (by decide) rfl ?_
          refine ml_note hR hs ho h16 hka b2 b3 (fun hf => by rw [hvo true hf]; exact ⟨rfl, I, L, rfl, hz, fun _ _ _ => rfl, fun _ _ _ => rfl⟩) (fun hf => ?_) _ 0 (by omega) rfl (fun j hj => by omega)
          have hok := jOk_push ho h16 hka b2 b3
          have h66 := jSix_push (a := ka) h6 hf
          refine aX_aload_n dX11_note_168 rfl ?_
          refine aX_get dX11_note_169 lfX11_7 s159 (f159_1 hR) ?_
          refine aX_aload_n dX11_note_172 rfl ?_
          refine aX_get (v := .int (nI (z.1.1))) dX11_note_173 lfX11_150 s159 (congrArg Value.int (hs.1)) ?_
          refine aX_iload_n dX11_note_176 rfl ?_
          refine nIast dX11_note_177 s160 (by first | omega | exact Nat.lt_of_le_of_lt (Nat.mod_le _ _) (by omega)) (by decide) ?_
          refine aX_aload_n dX11_note_178 rfl ?_
          refine aX_get dX11_note_179 lfX11_13 s159 (f159_2 hR) ?_
          refine aX_aload_n dX11_note_182 rfl ?_
          refine aX_get (v := .int (nI (z.1.1))) dX11_note_183 lfX11_150 s159 (congrArg Value.int (show (aU I 160 z.1.1 (nI (ka))) 159 0 = nI z.1.1 by rw [aU_n (by omega)]; exact hs.1)) ?_
          refine aX_iload_n dX11_note_186 rfl ?_
          refine nIast dX11_note_187 s161 (by first | omega | exact Nat.lt_of_le_of_lt (Nat.mod_le _ _) (by omega)) (by decide) ?_
          refine aX_aload_n dX11_note_188 rfl ?_
          refine aX_get dX11_note_189 lfX11_16 s159 (f159_3 hR) ?_
          refine aX_aload_n dX11_note_192 rfl ?_
          refine aX_get (v := .int (nI (z.1.1))) dX11_note_193 lfX11_150 s159 (congrArg Value.int (show (aU (aU I 160 z.1.1 (nI (ka))) 161 z.1.1 (nI (kb))) 159 0 = nI z.1.1 by rw [aU_n (by omega), aU_n (by omega)]; exact hs.1)) ?_
          refine aX_iload_n dX11_note_196 rfl ?_
          refine nIast dX11_note_197 s162 (by first | omega | exact Nat.lt_of_le_of_lt (Nat.mod_le _ _) (by omega)) (by decide) ?_
          refine aX_aload_n dX11_note_198 rfl ?_
          refine aX_get dX11_note_199 lfX11_19 s159 (f159_4 hR) ?_
          refine aX_aload_n dX11_note_202 rfl ?_
          refine aX_get (v := .int (nI (z.1.1))) dX11_note_203 lfX11_150 s159 (congrArg Value.int (show (aU (aU (aU I 160 z.1.1 (nI (ka))) 161 z.1.1 (nI (kb))) 162 z.1.1 (nI (kc))) 159 0 = nI z.1.1 by rw [aU_n (by omega), aU_n (by omega), aU_n (by omega)]; exact hs.1)) ?_
          refine aX_iconst (v := nI 0) dX11_note_206 (by decide) ?_
          refine nZast (b := false) dX11_note_207 s163 (by omega) (by decide) ?_
          refine aX_aload_n dX11_note_208 rfl ?_
          refine aX_dup dX11_note_209 rfl ?_
          refine aX_get (v := .int (nI (z.1.1))) dX11_note_210 lfX11_150 s159 (congrArg Value.int (show (aU (aU (aU (aU I 160 z.1.1 (nI (ka))) 161 z.1.1 (nI (kb))) 162 z.1.1 (nI (kc))) 163 z.1.1 (bI (false))) 159 0 = nI z.1.1 by rw [aU_n (by omega), aU_n (by omega), aU_n (by omega), aU_n (by omega)]; exact hs.1)) ?_
          refine aX_iconst (v := nI 1) dX11_note_213 (by decide) ?_
          refine nAdd dX11_note_214 ?_
          refine pI dX11_note_215 lfX11_150 (fun _ _ _ hq => by cases hq; exact Or.inl rfl) s159 rfl ?_
          obtain ⟨I3, hI3⟩ : ∃ y, y = (aU (aU (aU (aU (aU I 160 z.1.1 (nI (ka))) 161 z.1.1 (nI (kb))) 162 z.1.1 (nI (kc))) 163 z.1.1 (bI (false))) 159 0 (nI (z.1.1 + 1))) := ⟨_, rfl⟩
          rw [← hI3]
          have hk3 : ∀ q j, ¬ (q = 159 ∧ j = 0) → ¬ (160 ≤ q ∧ q ≤ 163) → I3 q j = I q j := fun q j g1 g2 => by rw [hI3, aU_n (by omega), aU_n (by omega), aU_n (by omega), aU_n (by omega), aU_n (by omega)]
          have hs3 : mnRep I3 (jPush z.1 ka kb kc) := by
            refine ⟨by rw [hI3, aU_s]; rfl, fun i hi => ?_⟩
            have hi' : i < z.1.1 + 1 := hi
            unfold jPush
            by_cases e : i = z.1.1
            · subst e
              simp only [va_up, if_true]
              refine ⟨?_, ?_, ?_, ?_⟩
              · rw [hI3, aU_n (by omega), aU_n (by omega), aU_n (by omega), aU_n (by omega), aU_s]
              · rw [hI3, aU_n (by omega), aU_n (by omega), aU_n (by omega), aU_s]
              · rw [hI3, aU_n (by omega), aU_n (by omega), aU_s]
              · rw [hI3, aU_n (by omega), aU_s]
            · simp only [va_up, if_neg e]
              obtain ⟨a1, a2, a3, a4⟩ := hs.2 i (by omega)
              refine ⟨?_, ?_, ?_, ?_⟩
              all_goals rw [hI3, aU_n (by omega), aU_n (by omega), aU_n (by omega), aU_n (by omega), aU_n (by omega)]
              all_goals assumption
          refine aX_aload_n dX11_note_218 rfl ?_
          refine cV (As := []) (st := []) dX11_note_219 kX11_note_136 s159 aEok0 rfl rfl (Nat.le_of_ble_eq_true rfl) (m_divide hR hs3 hok (mlRep_of (fun q j _ _ => hk3 q j (by omega) (by omega)) hl)) (fun ans' h' hq9 => ?_)
          obtain ⟨rfl, I5, rfl, d1, d2, d3, d4, d5, d6, d7⟩ := hq9
          refine ⟨rfl, ?_⟩
          refine aX_aload_n dX11_note_222 rfl ?_
          refine aX_get (v := .int (nI (z.1.1 + 1))) dX11_note_223 lfX11_150 s159 (congrArg Value.int (d1.1)) ?_
          refine aX_iconst (v := nI 1) dX11_note_226 (by decide) ?_
          refine nSub dX11_note_227 (by first | omega | exact Nat.lt_of_le_of_lt (Nat.mod_le _ _) (by omega)) ?_
          exact rI dX11_note_228 rfl (by rw [hvo false hf]; exact ⟨rfl, I5, L, rfl, mmRep_new hok h66 hg (mwRep_of (fun j => hk3 170 j (by omega) (by omega)) hw) (prRep_of (hk3 159 34 (by omega) (by omega)) (fun _ => rfl) hpr) (mtRep_of (fun q j g => hk3 q j (by omega) (by omega)) htx) d1 d2 d3 d4 d5 d6 d7, fun q j g => (d7 q j (by omega) (by omega)).trans (hk3 q j (by omega) (by omega)), fun _ _ _ => rfl⟩)
        · have hfu : jFull z.1 kb kc = true := by unfold jFull; simp; omega
          refine aX_bipush (v := (-3)) dX11_note_48 (by decide) ?_
          exact rI dX11_note_50 rfl (by rw [hvo true hfu]; exact ⟨rfl, I, L, rfl, hz, fun _ _ _ => rfl, fun _ _ _ => rfl⟩)
      · refine aX_iconst (v := (-1)) dX11_note_37 (by decide) ?_
        exact rI dX11_note_38 rfl (by rw [show oNote z a b c = (-1, z) by unfold oNote; rw [if_neg (by rw [show jNv a b c = false from (mNv_eq c1 c2).symm.trans c3]; decide)]]; exact ⟨rfl, I, L, rfl, hz, fun _ _ _ => rfl, fun _ _ _ => rfl⟩)
