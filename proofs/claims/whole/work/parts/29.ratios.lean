/-! ratios are laid down -/
def stKeep (I I' : Nat → Nat → Int32) (sl : Nat) : Prop := ∀ q j, ¬ ((q = 11 ∨ q = 12 ∨ q = 13) ∧ j = sl) → ¬ (q = 14 ∧ sl * 6 ≤ j ∧ j < sl * 6 + 6) → I' q j = I q j
def stIn (I I' : Nat → Nat → Int32) (sl u d p : Nat) : Prop := I' 11 sl = nI u ∧ I' 12 sl = nI d ∧ I' 13 sl = jSzF u d p ∧ (∀ p', p' < p → I' 14 (sl * 6 + p') = jPd u d p') ∧ stKeep I I' sl
theorem stIn_step {I I1 : Nat → Nat → Int32} {sl u d p : Nat} (hp : p < 6) (h : stIn I I1 sl u d p) : stIn I (aU (aU I1 14 (sl * 6 + p) (jPd u d p)) 13 sl (jSzF u d p + jPd u d p * jLg p)) sl u d (p + 1) := by
  obtain ⟨a, b, c, e, k⟩ := h
  refine ⟨?_, ?_, aU_s, fun p' hp' => ?_, fun q j h1 h2 => ?_⟩
  · rw [aU_n (by omega), aU_n (by omega)]; exact a
  · rw [aU_n (by omega), aU_n (by omega)]; exact b
  · rw [aU_n (by omega)]
    by_cases z : p' = p
    · subst z; exact aU_s
    · rw [aU_n (by omega)]; exact e p' (by omega)
  · rw [aU_n (by omega), aU_n (by omega)]; exact k q j h1 h2
theorem slRep_st {I I' : Nat → Nat → Int32} {sl sl' u d : Nat} (h : stKeep I I' sl) (hne : sl' ≠ sl) (hs : slRep I sl' u d) : slRep I' sl' u d := by
  obtain ⟨a, b, c, e⟩ := hs
  refine ⟨?_, ?_, ?_, fun p hp => ?_⟩
  · rw [h 11 sl' (by omega) (by omega)]; exact a
  · rw [h 12 sl' (by omega) (by omega)]; exact b
  · rw [h 13 sl' (by omega) (by omega)]; exact c
  · rw [h 14 (sl' * 6 + p) (by omega) (by omega)]; exact e p hp
def rPush (r : jR) (c u d : Nat) : jR := (va_up r.1 c (r.1 c + 1), va_up r.2.1 (c * 3 + r.1 c) u, va_up r.2.2 (c * 3 + r.1 c) d)
def rClear (r : jR) (c : Nat) : jR := (va_up r.1 c 0, r.2.1, r.2.2)
theorem rOk_push {r : jR} {c u d : Nat} (h : rOk r) (hc : c < 12) (h3 : r.1 c < 3) (hu1 : 1 ≤ u) (hu2 : u ≤ 9999) (hd1 : 1 ≤ d) (hd2 : d ≤ 9999) : rOk (rPush r c u d) := by
  intro c' hc'
  have hx := h c' hc'
  show va_up r.1 c (r.1 c + 1) c' ≤ 3 ∧ ∀ i, i < va_up r.1 c (r.1 c + 1) c' → 1 ≤ va_up r.2.1 (c * 3 + r.1 c) u (c' * 3 + i) ∧ va_up r.2.1 (c * 3 + r.1 c) u (c' * 3 + i) ≤ 9999 ∧ 1 ≤ va_up r.2.2 (c * 3 + r.1 c) d (c' * 3 + i) ∧ va_up r.2.2 (c * 3 + r.1 c) d (c' * 3 + i) ≤ 9999
  by_cases e : c' = c
  · subst e
    rw [up_s]
    refine ⟨by omega, fun i hi => ?_⟩
    by_cases z : i = r.1 c'
    · subst z; rw [up_s, up_s]; omega
    · rw [up_n (by omega), up_n (by omega)]; exact hx.2 i (by omega)
  · rw [up_n e]
    refine ⟨hx.1, fun i hi => ?_⟩
    rw [up_n (by omega), up_n (by omega)]
    exact hx.2 i hi
theorem rRep_push {I I1 : Nat → Nat → Int32} {r : jR} {c u d : Nat} (h : rRep I r) (hc : c < 12) (h3 : r.1 c < 3) (hu1 : 1 ≤ u) (hu2 : u ≤ 9999) (hd1 : 1 ≤ d) (hd2 : d ≤ 9999) (hk : stKeep I I1 (c * 3 + r.1 c)) (hs : slRep I1 (c * 3 + r.1 c) u d) : rRep (aU I1 15 c (nI (r.1 c + 1))) (rPush r c u d) := by
  have keep : ∀ sl a b, slRep I1 sl a b → slRep (aU I1 15 c (nI (r.1 c + 1))) sl a b := fun sl a b z => ⟨by rw [aU_n (by omega)]; exact z.1, by rw [aU_n (by omega)]; exact z.2.1, by rw [aU_n (by omega)]; exact z.2.2.1, fun p hp => by rw [aU_n (by omega)]; exact z.2.2.2 p hp⟩
  refine ⟨rOk_push h.1 hc h3 hu1 hu2 hd1 hd2, fun c' hc' => ?_, keep _ _ _ (slRep_st hk (by omega) h.2.2)⟩
  have hx := h.2.1 c' hc'
  have hy := (h.1 c' hc').1
  show _ = nI (va_up r.1 c (r.1 c + 1) c') ∧ ∀ i, i < va_up r.1 c (r.1 c + 1) c' → slRep _ (c' * 3 + i) (va_up r.2.1 (c * 3 + r.1 c) u (c' * 3 + i)) (va_up r.2.2 (c * 3 + r.1 c) d (c' * 3 + i))
  by_cases e : c' = c
  · subst e
    rw [up_s]
    refine ⟨aU_s, fun i hi => keep _ _ _ ?_⟩
    by_cases z : i = r.1 c'
    · subst z; rw [up_s, up_s]; exact hs
    · rw [up_n (by omega), up_n (by omega)]; exact slRep_st hk (by omega) (hx.2 i (by omega))
  · rw [up_n e]
    refine ⟨by rw [aU_n (by omega), hk 15 c' (by omega) (by omega)]; exact hx.1, fun i hi => keep _ _ _ ?_⟩
    rw [up_n (by omega), up_n (by omega)]
    exact slRep_st hk (by omega) (hx.2 i hi)
theorem rRep_clear {I : Nat → Nat → Int32} {r : jR} {c : Nat} (h : rRep I r) : rRep (aU I 15 c (nI 0)) (rClear r c) := by
  have keep : ∀ sl a b, slRep I sl a b → slRep (aU I 15 c (nI 0)) sl a b := fun sl a b z => ⟨by rw [aU_n (by omega)]; exact z.1, by rw [aU_n (by omega)]; exact z.2.1, by rw [aU_n (by omega)]; exact z.2.2.1, fun p hp => by rw [aU_n (by omega)]; exact z.2.2.2 p hp⟩
  refine ⟨fun c' hc' => ?_, fun c' hc' => ?_, keep _ _ _ h.2.2⟩
  · have hx := h.1 c' hc'
    show va_up r.1 c 0 c' ≤ 3 ∧ ∀ i, i < va_up r.1 c 0 c' → _
    by_cases e : c' = c
    · subst e; rw [up_s]; exact ⟨by omega, fun i hi => by omega⟩
    · rw [up_n e]; exact hx
  · have hx := h.2.1 c' hc'
    show _ = nI (va_up r.1 c 0 c') ∧ ∀ i, i < va_up r.1 c 0 c' → _
    by_cases e : c' = c
    · subst e; rw [up_s]; exact ⟨aU_s, fun i hi => by omega⟩
    · rw [up_n e]; exact ⟨by rw [aU_n (by omega)]; exact hx.1, fun i hi => keep _ _ _ (hx.2 i hi)⟩
def rtKeep (I I' : Nat → Nat → Int32) : Prop := ∀ q j, ¬ (11 ≤ q ∧ q ≤ 15) → I' q j = I q j
theorem stIn_end {I I1 : Nat → Nat → Int32} {sl u d p : Nat} (hp : p = 6) (h : stIn I I1 sl u d p) : slRep I1 sl u d := by
  subst hp
  exact ⟨h.1, h.2.1, h.2.2.1, h.2.2.2.1⟩
set_option maxHeartbeats 1000000 in
theorem l_store {I : Nat → Nat → Int32} {L : Nat → Nat → Int64} {R : Nat → Nat → Option Nat} (hR : aRf R) {sl u d : Nat} (hsl : sl < 37) (hu2 : u ≤ 9999) (hd2 : d ≤ 9999) : ∀ (k9 p : Nat), p ≤ 6 → 6 - p = k9 → ∀ I1 : Nat → Nat → Int32, stIn I I1 sl u d p → aX mX3_store aE0 (sh0, I1, L, R) 24 [(0, .ref 10), (1, .int (nI sl)), (2, .int (nI u)), (3, .int (nI d)), (4, .int (nI p))] [] 0 0 (fun r h' => r = none ∧ ∃ I', h' = (sh0, I', L, R) ∧ slRep I' sl u d ∧ stKeep I I' sl) := by
  intro k9
  induction k9 using Nat.strongRecOn with
  | _ k9 ih =>
    intro p hp hk I1 hin
    refine aX_iload dX3_store_24 rfl ?_
    refine aX_bipush (v := nI 6) dX3_store_26 (by decide) ?_
    refine nGe (tgt := 92) dX3_store_28 (by decide) (by first | omega | exact Nat.lt_of_le_of_lt (Nat.mod_le _ _) (by omega)) (by first | omega | exact Nat.lt_of_le_of_lt (Nat.mod_le _ _) (by omega)) (fun c1 => ?_) (fun c1 => ?_)
    · exact rV dX3_store_92 rfl (⟨rfl, I1, rfl, stIn_end (by omega) hin, hin.2.2.2.2⟩)
    · have hp := jP_in c1
      refine aX_iload_n dX3_store_31 rfl ?_
      refine aX_gets (i := 2) dX3_store_32 rfl (Or.inr lgX3_49) ?_
      refine aX_iload dX3_store_35 rfl ?_
      refine nEld dX3_store_37 rfl (by first | omega | exact Nat.lt_of_le_of_lt (Nat.mod_le _ _) (by omega)) (by decide) (prim_val (by omega)) ?_
      refine cSp (As := [.int (nI (u)), .int (nI (jP p))]) (st := []) (v := .int (nI (jPw 14 u (jP p)))) dX3_store_38 kX3_store_52 aEok0 rfl rfl (Nat.le_of_ble_eq_true rfl) (c_powerIn (by omega) (by omega) (by omega)) ?_
      refine aX_iload_n dX3_store_41 rfl ?_
      refine aX_gets (i := 2) dX3_store_42 rfl (Or.inr lgX3_49) ?_
      refine aX_iload dX3_store_45 rfl ?_
      refine nEld dX3_store_47 rfl (by first | omega | exact Nat.lt_of_le_of_lt (Nat.mod_le _ _) (by omega)) (by decide) (prim_val (by omega)) ?_
      refine cSp (As := [.int (nI (d)), .int (nI (jP p))]) (st := [.int (nI (jPw 14 u (jP p)))]) (v := .int (nI (jPw 14 d (jP p)))) dX3_store_48 kX3_store_52 aEok0 rfl rfl (Nat.le_of_ble_eq_true rfl) (c_powerIn (by omega) (by omega) (by omega)) ?_
      refine aX_isub dX3_store_51 ?_
      refine aX_istore (lv' := [(0, .ref 10), (1, .int (nI (sl))), (2, .int (nI (u))), (3, .int (nI (d))), (4, .int (nI (p))), (5, .int (jPd u d p))]) dX3_store_52 (by decide) rfl ?_
      refine aX_aload_n dX3_store_54 rfl ?_
      refine aX_get dX3_store_55 lfX3_21 s10 (f10_3 hR) ?_
      refine aX_iload_n dX3_store_58 rfl ?_
      refine aX_bipush (v := nI 6) dX3_store_59 (by decide) ?_
      refine nMul dX3_store_61 ?_
      refine aX_iload dX3_store_62 rfl ?_
      refine nAdd dX3_store_64 ?_
      refine aX_iload dX3_store_65 rfl ?_
      refine nIast dX3_store_67 s14 (by first | omega | exact Nat.lt_of_le_of_lt (Nat.mod_le _ _) (by omega)) (by decide) ?_
      refine aX_aload_n dX3_store_68 rfl ?_
      refine aX_get dX3_store_69 lfX3_18 s10 (f10_2 hR) ?_
      refine aX_iload_n dX3_store_72 rfl ?_
      refine aX_dup2_11 dX3_store_73 rfl rfl ?_
      refine nIald (v := jSzF u d p) dX3_store_74 s13 (by first | omega | exact Nat.lt_of_le_of_lt (Nat.mod_le _ _) (by omega)) (by decide) ((show (aU I1 14 ((sl * 6) + p) (jPd u d p)) 13 sl = I1 13 sl from congrFun (aU_o (by decide)) _).trans hin.2.2.1) ?_
      refine aX_iload dX3_store_75 rfl ?_
      refine aX_gets (i := 3) dX3_store_77 rfl (Or.inr lgX3_56) ?_
      refine aX_iload dX3_store_80 rfl ?_
      refine nEld dX3_store_82 rfl (by first | omega | exact Nat.lt_of_le_of_lt (Nat.mod_le _ _) (by omega)) (by decide) (rfl) ?_
      refine aX_imul dX3_store_83 ?_
      refine aX_iadd dX3_store_84 ?_
      refine nIast dX3_store_85 s13 (by first | omega | exact Nat.lt_of_le_of_lt (Nat.mod_le _ _) (by omega)) (by decide) ?_
      refine nInc (lv' := [(0, .ref 10), (1, .int (nI (sl))), (2, .int (nI (u))), (3, .int (nI (d))), (4, .int (nI (p + 1))), (5, .int (jPd u d p))]) dX3_store_86 rfl rfl (by decide) rfl ?_
      refine aX_goto (tgt := 24) dX3_store_89 (by decide) ?_
      refine aX_lv (lv' := [(0, .ref 10), (1, .int (nI sl)), (2, .int (nI u)), (3, .int (nI d)), (4, .int (nI (p + 1)))]) [0, 1, 2, 3, 4] rfl ?_
      exact ih (6 - (p + 1)) (by omega) (p + 1) (by omega) rfl _ (stIn_step (by omega) hin)

set_option maxHeartbeats 1000000 in
theorem c_store {I : Nat → Nat → Int32} {L : Nat → Nat → Int64} {R : Nat → Nat → Option Nat} (hR : aRf R) {sl u d : Nat} (hsl : sl < 37) (hu2 : u ≤ 9999) (hd2 : d ≤ 9999) : aM mX3_store [.ref 10, .int (nI sl), .int (nI u), .int (nI d)] (sh0, I, L, R) (fun r h' => r = none ∧ ∃ I', h' = (sh0, I', L, R) ∧ slRep I' sl u d ∧ stKeep I I' sl) := by
  refine aM_of plX3_store (Nat.le_of_ble_eq_true rfl) ?_
  refine aX_aload_n dX3_store_0 rfl ?_
  refine aX_get dX3_store_1 lfX3_9 s10 (f10_0 hR) ?_
  refine aX_iload_n dX3_store_4 rfl ?_
  refine aX_iload_n dX3_store_5 rfl ?_
  refine nIast dX3_store_6 s11 (by first | omega | exact Nat.lt_of_le_of_lt (Nat.mod_le _ _) (by omega)) (by decide) ?_
  refine aX_aload_n dX3_store_7 rfl ?_
  refine aX_get dX3_store_8 lfX3_15 s10 (f10_1 hR) ?_
  refine aX_iload_n dX3_store_11 rfl ?_
  refine aX_iload_n dX3_store_12 rfl ?_
  refine nIast dX3_store_13 s12 (by first | omega | exact Nat.lt_of_le_of_lt (Nat.mod_le _ _) (by omega)) (by decide) ?_
  refine aX_aload_n dX3_store_14 rfl ?_
  refine aX_get dX3_store_15 lfX3_18 s10 (f10_2 hR) ?_
  refine aX_iload_n dX3_store_18 rfl ?_
  refine aX_iconst (v := nI 0) dX3_store_19 (by decide) ?_
  refine nIast dX3_store_20 s13 (by first | omega | exact Nat.lt_of_le_of_lt (Nat.mod_le _ _) (by omega)) (by decide) ?_
  refine aX_iconst (v := nI 0) dX3_store_21 (by decide) ?_
  refine aX_istore (lv' := [(0, .ref 10), (1, .int (nI (sl))), (2, .int (nI (u))), (3, .int (nI (d))), (4, .int (nI (0)))]) dX3_store_22 (by decide) rfl ?_
  exact l_store hR hsl hu2 hd2 _ 0 (by omega) rfl _ ⟨by rw [aU_n (by omega), aU_n (by omega), aU_s], by rw [aU_n (by omega), aU_s], aU_s, fun p' hp' => absurd hp' (Nat.not_lt_zero _), fun q j h1 h2 => by rw [aU_n (by omega), aU_n (by omega), aU_n (by omega)]⟩

set_option maxHeartbeats 1000000 in
theorem c_rappend {I : Nat → Nat → Int32} {L : Nat → Nat → Int64} {R : Nat → Nat → Option Nat} (hR : aRf R) {r : jR} (hr : rRep I r) {c : Nat} (hc : c < 12) {u d : Nat} (h3 : r.1 c < 3) (hu1 : 1 ≤ u) (hu2 : u ≤ 9999) (hd1 : 1 ≤ d) (hd2 : d ≤ 9999) : aM mX3_append [.ref 10, .int (nI c), .int (nI u), .int (nI d)] (sh0, I, L, R) (fun ans h' => ans = some (.int (nI (r.1 c))) ∧ ∃ I', h' = (sh0, I', L, R) ∧ rRep I' (rPush r c u d) ∧ rtKeep I I') := by
  refine aM_of plX3_append (Nat.le_of_ble_eq_true rfl) ?_
  refine aX_aload_n dX3_append_0 rfl ?_
  refine aX_get dX3_append_1 lfX3_24 s10 (f10_4 hR) ?_
  refine aX_iload_n dX3_append_4 rfl ?_
  refine nIald (v := nI (r.1 c)) dX3_append_5 s15 (by first | omega | exact Nat.lt_of_le_of_lt (Nat.mod_le _ _) (by omega)) (by decide) ((hr.2.1 c hc).1) ?_
  refine aX_istore (lv' := [(0, .ref 10), (1, .int (nI (c))), (2, .int (nI (u))), (3, .int (nI (d))), (4, .int (nI (r.1 c)))]) dX3_append_6 (by decide) rfl ?_
  refine aX_aload_n dX3_append_8 rfl ?_
  refine aX_iload_n dX3_append_9 rfl ?_
  refine aX_iconst (v := nI 3) dX3_append_10 (by decide) ?_
  refine nMul dX3_append_11 ?_
  refine aX_iload dX3_append_12 rfl ?_
  refine nAdd dX3_append_14 ?_
  refine aX_iload_n dX3_append_15 rfl ?_
  refine aX_iload_n dX3_append_16 rfl ?_
  refine cV (As := [.int (nI ((c * 3) + (r.1 c))), .int (nI (u)), .int (nI (d))]) (st := []) dX3_append_17 kX3_append_37 s10 aEok0 rfl rfl (Nat.le_of_ble_eq_true rfl) (c_store hR (by omega) hu2 hd2) (fun r h' hq => ?_)
  obtain ⟨rfl, I2, rfl, hsl2, hk2⟩ := hq
  refine ⟨rfl, ?_⟩
  refine aX_aload_n dX3_append_20 rfl ?_
  refine aX_get dX3_append_21 lfX3_24 s10 (f10_4 hR) ?_
  refine aX_iload_n dX3_append_24 rfl ?_
  refine aX_iload dX3_append_25 rfl ?_
  refine aX_iconst (v := nI 1) dX3_append_27 (by decide) ?_
  refine nAdd dX3_append_28 ?_
  refine nIast dX3_append_29 s15 (by first | omega | exact Nat.lt_of_le_of_lt (Nat.mod_le _ _) (by omega)) (by decide) ?_
  refine aX_iload dX3_append_30 rfl ?_
  exact rI dX3_append_32 rfl (⟨rfl, _, rfl, rRep_push hr hc h3 hu1 hu2 hd1 hd2 hk2 hsl2, fun q j h => by rw [aU_n (by omega), hk2 q j (by omega) (by omega)]⟩)

set_option maxHeartbeats 1000000 in
theorem c_rremoveAll {I : Nat → Nat → Int32} {L : Nat → Nat → Int64} {R : Nat → Nat → Option Nat} (hR : aRf R) {r : jR} (hr : rRep I r) {c : Nat} (hc : c < 12) : aM mX3_removeAll [.ref 10, .int (nI c)] (sh0, I, L, R) (fun ans h' => ans = some (.int (nI (r.1 c))) ∧ h' = (sh0, aU I 15 c (nI 0), L, R)) := by
  refine aM_of plX3_removeAll (Nat.le_of_ble_eq_true rfl) ?_
  refine aX_aload_n dX3_removeAll_0 rfl ?_
  refine aX_get dX3_removeAll_1 lfX3_24 s10 (f10_4 hR) ?_
  refine aX_iload_n dX3_removeAll_4 rfl ?_
  refine nIald (v := nI (r.1 c)) dX3_removeAll_5 s15 (by first | omega | exact Nat.lt_of_le_of_lt (Nat.mod_le _ _) (by omega)) (by decide) ((hr.2.1 c hc).1) ?_
  refine aX_istore_n (lv' := [(0, .ref 10), (1, .int (nI (c))), (2, .int (nI (r.1 c)))]) dX3_removeAll_6 (by decide) rfl ?_
  refine aX_aload_n dX3_removeAll_7 rfl ?_
  refine aX_get dX3_removeAll_8 lfX3_24 s10 (f10_4 hR) ?_
  refine aX_iload_n dX3_removeAll_11 rfl ?_
  refine aX_iconst (v := nI 0) dX3_removeAll_12 (by decide) ?_
  refine nIast dX3_removeAll_13 s15 (by first | omega | exact Nat.lt_of_le_of_lt (Nat.mod_le _ _) (by omega)) (by decide) ?_
  refine aX_iload_n dX3_removeAll_14 rfl ?_
  exact rI dX3_removeAll_15 rfl (⟨rfl, rfl⟩)

set_option maxHeartbeats 1000000 in
theorem lp_holds {I : Nat → Nat → Int32} {L : Nat → Nat → Int64} {R : Nat → Nat → Option Nat} (hR : aRf R) {r : jR} (hr : rRep I r) {c : Nat} (hc : c < 12) {x y : Int32} : ∀ (k9 i : Nat), i ≤ r.1 c → r.1 c - i = k9 → jHas r c x y i = false → aX mX3_holds aE0 (sh0, I, L, R) 3 [(0, .ref 10), (1, .int (nI c)), (2, .int x), (3, .int y), (4, .int (nI i))] [] 0 0 (fun ans h' => h' = (sh0, I, L, R) ∧ ans = some (.int (bI (jHas r c x y (r.1 c))))) := by
  intro k9
  induction k9 using Nat.strongRecOn with
  | _ k9 ih =>
    intro i hi hk hF
    have h3 := (hr.1 c hc).1
    refine aX_iload dX3_holds_3 rfl ?_
    refine aX_aload_n dX3_holds_5 rfl ?_
    refine aX_get dX3_holds_6 lfX3_24 s10 (f10_4 hR) ?_
    refine aX_iload_n dX3_holds_9 rfl ?_
    refine nIald (v := nI (r.1 c)) dX3_holds_10 s15 (by first | omega | exact Nat.lt_of_le_of_lt (Nat.mod_le _ _) (by omega)) (by decide) ((hr.2.1 c hc).1) ?_
    refine nGe (tgt := 52) dX3_holds_11 (by decide) (by first | omega | exact Nat.lt_of_le_of_lt (Nat.mod_le _ _) (by omega)) (by first | omega | exact Nat.lt_of_le_of_lt (Nat.mod_le _ _) (by omega)) (fun c1 => ?_) (fun c1 => ?_)
    · refine aX_iconst (v := nI 0) dX3_holds_52 (by decide) ?_
      exact rZ dX3_holds_53 rfl (Or.inl rfl) (⟨rfl, by rw [show r.1 c = i by omega, hF]; rfl⟩)
    · refine aX_iload_n dX3_holds_14 rfl ?_
      refine aX_iconst (v := nI 3) dX3_holds_15 (by decide) ?_
      refine nMul dX3_holds_16 ?_
      refine aX_iload dX3_holds_17 rfl ?_
      refine nAdd dX3_holds_19 ?_
      refine aX_istore (lv' := [(0, .ref 10), (1, .int (nI (c))), (2, .int (x)), (3, .int (y)), (4, .int (nI (i))), (5, .int (nI ((c * 3) + i)))]) dX3_holds_20 (by decide) rfl ?_
      refine aX_aload_n dX3_holds_22 rfl ?_
      refine aX_get dX3_holds_23 lfX3_9 s10 (f10_0 hR) ?_
      refine aX_iload dX3_holds_26 rfl ?_
      refine nIald (v := nI (r.2.1 (c * 3 + i))) dX3_holds_28 s11 (by first | omega | exact Nat.lt_of_le_of_lt (Nat.mod_le _ _) (by omega)) (by decide) (((hr.2.1 c hc).2 i (by omega)).1) ?_
      refine aX_iload_n dX3_holds_29 rfl ?_
      refine aX_icmp_ne (tgt := 46) dX3_holds_30 (by decide) (fun c2 => ?_) (fun c2 => ?_)
      · refine nInc (lv' := [(0, .ref 10), (1, .int (nI (c))), (2, .int (x)), (3, .int (y)), (4, .int (nI (i + 1))), (5, .int (nI ((c * 3) + i)))]) dX3_holds_46 rfl rfl (by decide) rfl ?_
        refine aX_goto (tgt := 3) dX3_holds_49 (by decide) ?_
        refine aX_lv (lv' := [(0, .ref 10), (1, .int (nI c)), (2, .int x), (3, .int y), (4, .int (nI (i + 1)))]) [0, 1, 2, 3, 4] rfl ?_
        exact ih (r.1 c - (i + 1)) (by omega) (i + 1) (by omega) rfl (by unfold jHas; rw [hF]; simp_all)
      · refine aX_aload_n dX3_holds_33 rfl ?_
        refine aX_get dX3_holds_34 lfX3_15 s10 (f10_1 hR) ?_
        refine aX_iload dX3_holds_37 rfl ?_
        refine nIald (v := nI (r.2.2 (c * 3 + i))) dX3_holds_39 s12 (by first | omega | exact Nat.lt_of_le_of_lt (Nat.mod_le _ _) (by omega)) (by decide) (((hr.2.1 c hc).2 i (by omega)).2.1) ?_
        refine aX_iload_n dX3_holds_40 rfl ?_
        refine aX_icmp_ne (tgt := 46) dX3_holds_41 (by decide) (fun c3 => ?_) (fun c3 => ?_)
        · refine nInc (lv' := [(0, .ref 10), (1, .int (nI (c))), (2, .int (x)), (3, .int (y)), (4, .int (nI (i + 1))), (5, .int (nI ((c * 3) + i)))]) dX3_holds_46 rfl rfl (by decide) rfl ?_
          refine aX_goto (tgt := 3) dX3_holds_49 (by decide) ?_
          refine aX_lv (lv' := [(0, .ref 10), (1, .int (nI c)), (2, .int x), (3, .int y), (4, .int (nI (i + 1)))]) [0, 1, 2, 3, 4] rfl ?_
          exact ih (r.1 c - (i + 1)) (by omega) (i + 1) (by omega) rfl (by unfold jHas; rw [hF]; simp_all)
        · refine aX_iconst (v := nI 1) dX3_holds_44 (by decide) ?_
          exact rZ dX3_holds_45 rfl (Or.inr rfl) (⟨rfl, by rw [jHas_at (r := r) (c := c) (i := i) (x := x) (y := y) (by simp_all) (by simp_all) _ (by omega)]; rfl⟩)

set_option maxHeartbeats 1000000 in
theorem c_holds {I : Nat → Nat → Int32} {L : Nat → Nat → Int64} {R : Nat → Nat → Option Nat} (hR : aRf R) {r : jR} (hr : rRep I r) {c : Nat} (hc : c < 12) {x y : Int32} : aMp mX3_holds [.ref 10, .int (nI c), .int x, .int y] (sh0, I, L, R) (.int (bI (jHas r c x y (r.1 c)))) := by
  refine aM_of plX3_holds (Nat.le_of_ble_eq_true rfl) ?_
  refine aX_iconst (v := nI 0) dX3_holds_0 (by decide) ?_
  refine aX_istore (lv' := [(0, .ref 10), (1, .int (nI (c))), (2, .int (x)), (3, .int (y)), (4, .int (nI (0)))]) dX3_holds_1 (by decide) rfl ?_
  exact lp_holds hR hr hc _ 0 (by omega) rfl rfl

set_option maxHeartbeats 1000000 in
theorem l_harshness {I : Nat → Nat → Int32} {L : Nat → Nat → Int64} {R : Nat → Nat → Option Nat} (hR : aRf R) {s1 s2 u1 d1 u2 d2 : Nat} (b1 : s1 < 37) (b2 : s2 < 37) (h1 : slRep I s1 u1 d1) (h2 : slRep I s2 u2 d2) : ∀ (k9 q : Nat), q ≤ 5 → 5 - q = k9 → aX mX3_harshness aE0 (sh0, I, L, R) 5 [(0, .ref 10), (1, .int (nI s1)), (2, .int (nI s2)), (3, .int (jHr (jPd u1 d1) (jPd u2 d2) q)), (4, .int (nI (q + 1)))] [] 0 0 (fun ans h' => h' = (sh0, I, L, R) ∧ ans = some (.int (jHr (jPd u1 d1) (jPd u2 d2) 5))) := by
  intro k9
  induction k9 using Nat.strongRecOn with
  | _ k9 ih =>
    intro q hq hk
    refine aX_iload dX3_harshness_5 rfl ?_
    refine aX_bipush (v := nI 6) dX3_harshness_7 (by decide) ?_
    refine nGe (tgt := 62) dX3_harshness_9 (by decide) (by first | omega | exact Nat.lt_of_le_of_lt (Nat.mod_le _ _) (by omega)) (by first | omega | exact Nat.lt_of_le_of_lt (Nat.mod_le _ _) (by omega)) (fun c1 => ?_) (fun c1 => ?_)
    · refine aX_iload_n dX3_harshness_62 rfl ?_
      exact rI dX3_harshness_63 rfl (⟨rfl, by rw [show q = 5 by omega]⟩)
    · have hp := jP_in c1
      refine aX_aload_n dX3_harshness_12 rfl ?_
      refine aX_get dX3_harshness_13 lfX3_21 s10 (f10_3 hR) ?_
      refine aX_iload_n dX3_harshness_16 rfl ?_
      refine aX_bipush (v := nI 6) dX3_harshness_17 (by decide) ?_
      refine nMul dX3_harshness_19 ?_
      refine aX_iload dX3_harshness_20 rfl ?_
      refine nAdd dX3_harshness_22 ?_
      refine nIald (v := jPd u1 d1 (q + 1)) dX3_harshness_23 s14 (by first | omega | exact Nat.lt_of_le_of_lt (Nat.mod_le _ _) (by omega)) (by decide) (h1.2.2.2 (q + 1) (by omega)) ?_
      refine aX_aload_n dX3_harshness_24 rfl ?_
      refine aX_get dX3_harshness_25 lfX3_21 s10 (f10_3 hR) ?_
      refine aX_iload_n dX3_harshness_28 rfl ?_
      refine aX_bipush (v := nI 6) dX3_harshness_29 (by decide) ?_
      refine nMul dX3_harshness_31 ?_
      refine aX_iload dX3_harshness_32 rfl ?_
      refine nAdd dX3_harshness_34 ?_
      refine nIald (v := jPd u2 d2 (q + 1)) dX3_harshness_35 s14 (by first | omega | exact Nat.lt_of_le_of_lt (Nat.mod_le _ _) (by omega)) (by decide) (h2.2.2.2 (q + 1) (by omega)) ?_
      refine aX_isub dX3_harshness_36 ?_
      refine aX_istore (lv' := [(0, .ref 10), (1, .int (nI (s1))), (2, .int (nI (s2))), (3, .int (jHr (jPd u1 d1) (jPd u2 d2) q)), (4, .int (nI (q + 1))), (5, .int ((jPd u1 d1 (q + 1)) - (jPd u2 d2 (q + 1))))]) dX3_harshness_37 (by decide) rfl ?_
      refine aX_iload_n dX3_harshness_39 rfl ?_
      refine aX_iload dX3_harshness_40 rfl ?_
      refine cSp (As := [.int ((jPd u1 d1 (q + 1)) - (jPd u2 d2 (q + 1)))]) (st := [.int (jHr (jPd u1 d1) (jPd u2 d2) q)]) (v := .int (jAbs ((jPd u1 d1 (q + 1)) - (jPd u2 d2 (q + 1))))) dX3_harshness_42 kX3_harshness_59 aEok0 rfl rfl (Nat.le_of_ble_eq_true rfl) (c_abs) ?_
      refine aX_gets (i := 2) dX3_harshness_45 rfl (Or.inr lgX3_49) ?_
      refine aX_iload dX3_harshness_48 rfl ?_
      refine nEld dX3_harshness_50 rfl (by first | omega | exact Nat.lt_of_le_of_lt (Nat.mod_le _ _) (by omega)) (by decide) (prim_val (by omega)) ?_
      refine aX_iconst (v := nI 1) dX3_harshness_51 (by decide) ?_
      refine nSub dX3_harshness_52 (by first | omega | exact Nat.lt_of_le_of_lt (Nat.mod_le _ _) (by omega)) ?_
      refine aX_imul dX3_harshness_53 ?_
      refine aX_iadd dX3_harshness_54 ?_
      refine aX_istore_n (lv' := [(0, .ref 10), (1, .int (nI (s1))), (2, .int (nI (s2))), (3, .int ((jHr (jPd u1 d1) (jPd u2 d2) q) + ((jAbs ((jPd u1 d1 (q + 1)) - (jPd u2 d2 (q + 1)))) * (nI ((jP (q + 1)) - 1))))), (4, .int (nI (q + 1))), (5, .int ((jPd u1 d1 (q + 1)) - (jPd u2 d2 (q + 1))))]) dX3_harshness_55 (by decide) rfl ?_
      refine nInc (lv' := [(0, .ref 10), (1, .int (nI (s1))), (2, .int (nI (s2))), (3, .int ((jHr (jPd u1 d1) (jPd u2 d2) q) + ((jAbs ((jPd u1 d1 (q + 1)) - (jPd u2 d2 (q + 1)))) * (nI ((jP (q + 1)) - 1))))), (4, .int (nI ((q + 1) + 1))), (5, .int ((jPd u1 d1 (q + 1)) - (jPd u2 d2 (q + 1))))]) dX3_harshness_56 rfl rfl (by decide) rfl ?_
      refine aX_goto (tgt := 5) dX3_harshness_59 (by decide) ?_
      refine aX_lv (lv' := [(0, .ref 10), (1, .int (nI s1)), (2, .int (nI s2)), (3, .int (jHr (jPd u1 d1) (jPd u2 d2) (q + 1))), (4, .int (nI (q + 1 + 1)))]) [0, 1, 2, 3, 4] rfl ?_
      exact ih (5 - (q + 1)) (by omega) (q + 1) (by omega) rfl

set_option maxHeartbeats 1000000 in
theorem c_harshness {I : Nat → Nat → Int32} {L : Nat → Nat → Int64} {R : Nat → Nat → Option Nat} (hR : aRf R) {s1 s2 u1 d1 u2 d2 : Nat} (b1 : s1 < 37) (b2 : s2 < 37) (h1 : slRep I s1 u1 d1) (h2 : slRep I s2 u2 d2) : aMp mX3_harshness [.ref 10, .int (nI s1), .int (nI s2)] (sh0, I, L, R) (.int (jHr (jPd u1 d1) (jPd u2 d2) 5)) := by
  refine aM_of plX3_harshness (Nat.le_of_ble_eq_true rfl) ?_
  refine aX_iconst (v := nI 0) dX3_harshness_0 (by decide) ?_
  refine aX_istore_n (lv' := [(0, .ref 10), (1, .int (nI (s1))), (2, .int (nI (s2))), (3, .int (nI (0)))]) dX3_harshness_1 (by decide) rfl ?_
  refine aX_iconst (v := nI 1) dX3_harshness_2 (by decide) ?_
  refine aX_istore (lv' := [(0, .ref 10), (1, .int (nI (s1))), (2, .int (nI (s2))), (3, .int (nI (0))), (4, .int (nI (1)))]) dX3_harshness_3 (by decide) rfl ?_
  exact l_harshness hR b1 b2 h1 h2 _ 0 (by omega) rfl

