/-! THE REFERENCE: ratio -/
theorem jStr_more : ∀ (f v q : Nat), 2 ≤ q → 0 < v → v < 2 ^ f → ∀ g, f ≤ g → jStr g v q = jStr f v q
  | 0, v, q, _, h0, h, _, _ => absurd h (by simp; omega)
  | f + 1, v, q, hq, h0, h, g, hg => by
    obtain ⟨g', rfl⟩ : ∃ g', g = g' + 1 := ⟨g - 1, by omega⟩
    show (if v % q = 0 then jStr g' (v / q) q else v) = (if v % q = 0 then jStr f (v / q) q else v)
    by_cases e : v % q = 0
    · rw [if_pos e, if_pos e]
      have h1 : q ≤ v := Nat.le_of_dvd h0 (Nat.dvd_of_mod_eq_zero e)
      have h2 : 0 < v / q := Nat.div_pos h1 (by omega)
      have h3 : v / q < 2 ^ f := by
        have : v / q ≤ v / 2 := Nat.div_le_div_left hq (by decide)
        rw [Nat.pow_succ] at h; omega
      rw [jStr_more f (v / q) q hq h2 h3 g' (by omega)]
    · rw [if_neg e, if_neg e]
theorem jStr_pos : ∀ (f v q : Nat), 0 < q → 0 < v → 0 < jStr f v q ∧ jStr f v q ∣ v
  | 0, v, q, _, h0 => ⟨h0, Nat.dvd_refl _⟩
  | f + 1, v, q, hq, h0 => by
    show 0 < (if v % q = 0 then jStr f (v / q) q else v) ∧ (if v % q = 0 then jStr f (v / q) q else v) ∣ v
    by_cases e : v % q = 0
    · rw [if_pos e]
      have h1 : q ≤ v := Nat.le_of_dvd h0 (Nat.dvd_of_mod_eq_zero e)
      have ih := jStr_pos f (v / q) q hq (Nat.div_pos h1 hq)
      exact ⟨ih.1, Nat.dvd_trans ih.2 (Nat.div_dvd_of_dvd (Nat.dvd_of_mod_eq_zero e))⟩
    · rw [if_neg e]; exact ⟨h0, Nat.dvd_refl _⟩
theorem jP_isP : ∀ q, q < 6 → isP (jP q)
  | 0, _ => ⟨by decide, fun d hd => by
    have h1 : d ≤ 2 := Nat.le_of_dvd (by decide) hd
    rcases (show d = 0 ∨ d = 1 ∨ d = 2 by omega) with e | e | e
    · rw [e] at hd; simp [jP] at hd
    · exact Or.inl e
    · exact Or.inr e⟩
  | 1, _ => prime_tdiv (k := 0) (by decide) (by decide) (by decide) (by decide)
  | 2, _ => prime_tdiv (k := 0) (by decide) (by decide) (by decide) (by decide)
  | 3, _ => prime_tdiv (k := 0) (by decide) (by decide) (by decide) (by decide)
  | 4, _ => prime_tdiv (k := 1) (by decide) (by decide) (by decide) (by decide)
  | 5, _ => prime_tdiv (k := 1) (by decide) (by decide) (by decide) (by decide)
  | n + 6, h => absurd h (by omega)
theorem jP_inj0 : ∀ a, a < 6 → ∀ b, b < 6 → jP a = jP b → a = b := by decide
theorem jP_inj (a b : Nat) (ha : a < 6) (hb : b < 6) (h : jP a = jP b) : a = b := jP_inj0 a ha b hb h
theorem jStr_keep {p q : Nat} (hp : isP p) (hq : isP q) (hne : p ≠ q) : ∀ (f v : Nat), p ∣ v → p ∣ jStr f v q
  | 0, _, h => h
  | f + 1, v, h => by
    show p ∣ (if v % q = 0 then jStr f (v / q) q else v)
    by_cases e : v % q = 0
    · rw [if_pos e]
      refine jStr_keep hp hq hne f (v / q) ?_
      have e2 : v = q * (v / q) := (Nat.mul_div_cancel' (Nat.dvd_of_mod_eq_zero e)).symm
      rw [e2] at h
      rcases euclid hp h with g | g
      · rcases hq.2 p g with y | y
        · have := hp.1; omega
        · exact absurd y hne
      · exact g
    · rw [if_neg e]; exact h
theorem jSmR_pos {v : Nat} (h0 : 0 < v) : ∀ q, q ≤ 6 → 0 < jSmR v q ∧ jSmR v q ∣ v
  | 0, _ => ⟨h0, Nat.dvd_refl _⟩
  | q + 1, hq => by
    have ih := jSmR_pos h0 q (by omega)
    have := jStr_pos 14 (jSmR v q) (jP q) (by have := (jP_in (show q < 6 by omega)).1; omega) ih.1
    exact ⟨this.1, Nat.dvd_trans this.2 ih.2⟩
theorem jSmR_keep {v p : Nat} (hp : p < 6) (h : jP p ∣ v) : ∀ q, q ≤ p → jP p ∣ jSmR v q
  | 0, _ => h
  | q + 1, hq => jStr_keep (jP_isP p hp) (jP_isP q (by omega)) (fun e => by have := jP_inj p q hp (by omega) e; omega) 14 _ (jSmR_keep hp h q (by omega))
theorem jShr_f {u d : Nat} : ∀ n, (∀ q, q < n → ¬ (u % jP q = 0 ∧ d % jP q = 0)) → jShr u d n = false
  | 0, _ => rfl
  | n + 1, h => by
    show (jShr u d n || (decide (u % jP n = 0) && decide (d % jP n = 0))) = false
    rw [jShr_f n (fun q hq => h q (by omega))]
    have := h n (by omega)
    simp only [Bool.false_or, Bool.and_eq_false_iff, decide_eq_false_iff_not]
    by_cases e : u % jP n = 0
    · exact Or.inr (fun g => this ⟨e, g⟩)
    · exact Or.inl e
theorem jShr_t {u d : Nat} : ∀ n q, q < n → u % jP q = 0 → d % jP q = 0 → jShr u d n = true
  | 0, q, h, _, _ => absurd h (by omega)
  | n + 1, q, h, h1, h2 => by
    show (jShr u d n || (decide (u % jP n = 0) && decide (d % jP n = 0))) = true
    by_cases e : q = n
    · subst e; simp [h1, h2]
    · rw [jShr_t n q (by omega) h1 h2]; rfl
set_option maxHeartbeats 1000000 in
theorem ml_put {I : Nat → Nat → Int32} {L : Nat → Nat → Int64} {R : Nat → Nat → Option Nat} (hR : aRf R) {r : jR} (hl : mlRep I r) {c u d : Nat} (hc : c < 12) (h3 : r.1 c < 3) (hu1 : 1 ≤ u) (hu2 : u ≤ 9999) (hd1 : 1 ≤ d) (hd2 : d ≤ 9999) : ∀ (k9 i : Nat), i ≤ 6 → 6 - i = k9 → ∀ (I1 : Nat → Nat → Int32), I1 165 (3 * c + r.1 c) = nI u → I1 166 (3 * c + r.1 c) = nI d → (∀ q, q < i → I1 167 (6 * (3 * c + r.1 c) + q) = jPd u d q) → (∀ q j, q ≠ 164 → ¬ ((q = 165 ∨ q = 166) ∧ j = 3 * c + r.1 c) → ¬ (q = 167 ∧ 6 * (3 * c + r.1 c) ≤ j ∧ j < 6 * (3 * c + r.1 c) + 6) → I1 q j = I q j) → (∀ j, I1 164 j = I 164 j) → aX mX11_put aE0 (sh0, I1, L, R) 31 [(0, .ref 159), (1, .int (nI (c))), (2, .int (nI (u))), (3, .int (nI (d))), (4, .int (nI (3 * c + r.1 c))), (5, .int (nI (i)))] [] 0 0 (fun ans h' => ans = none ∧ ∃ I', h' = (sh0, I', L, R) ∧ mlRep I' (rPush r c u d) ∧ (∀ q j, (q < 164 ∨ 167 < q) → I' q j = I q j)) := by
  intro k9
  induction k9 using Nat.strongRecOn with
  | _ k9 ih =>
    intro i hi hk9 I1  hu hd hp hk h164
    have hjp : i < 6 → 2 ≤ jP i ∧ jP i ≤ 13 := fun g => jP_in g
    refine aX_iload dX11_put_31 rfl ?_
    refine aX_bipush (v := nI 6) dX11_put_33 (by decide) ?_
    refine nGe (tgt := 82) dX11_put_35 (by decide) (by first | omega | exact Nat.lt_of_le_of_lt (Nat.mod_le _ _) (by omega)) (by first | omega | exact Nat.lt_of_le_of_lt (Nat.mod_le _ _) (by omega)) (fun c1 => ?_) (fun c1 => ?_)
    · refine aX_aload_n dX11_put_82 rfl ?_
      refine aX_get dX11_put_83 lfX11_23 s159 (f159_5 hR) ?_
      refine aX_iload_n dX11_put_86 rfl ?_
      refine aX_dup2_11 dX11_put_87 rfl rfl ?_
      refine nIald (v := nI (r.1 c)) dX11_put_88 s164 (by first | omega | exact Nat.lt_of_le_of_lt (Nat.mod_le _ _) (by omega)) (by decide) ((h164 c).trans (hl.2.1 c hc)) ?_
      refine aX_iconst (v := nI 1) dX11_put_89 (by decide) ?_
      refine nAdd dX11_put_90 ?_
      refine nIast dX11_put_91 s164 (by first | omega | exact Nat.lt_of_le_of_lt (Nat.mod_le _ _) (by omega)) (by decide) ?_
      exact rV dX11_put_92 rfl (⟨rfl, _, rfl, by
            have hi6 : i = 6 := by omega
            subst hi6
            refine ⟨fun a ha => ?_, fun a ha => ?_, fun a b j ha hb hj => ?_, fun q hq => ⟨by rw [aU_n (by omega), hk 168 q (by omega) (by omega) (by omega)]; exact (hl.2.2.2 q hq).1, by rw [aU_n (by omega), hk 169 q (by omega) (by omega) (by omega)]; exact (hl.2.2.2 q hq).2⟩⟩
            · unfold rPush
              have hra := hl.1 a ha
              by_cases e : a = c
              · subst e
                simp only [va_up, if_true]
                refine ⟨by omega, fun b hb => ?_⟩
                by_cases e2 : b = r.1 a
                · subst e2; simp only [if_true]; omega
                · rw [if_neg (by omega), if_neg (by omega)]; exact hra.2 b (by omega)
              · simp only [va_up, if_neg e]
                refine ⟨hra.1, fun b hb => ?_⟩
                rw [if_neg (by omega), if_neg (by omega)]; exact hra.2 b hb
            · unfold rPush
              by_cases e : a = c
              · subst e; rw [aU_s]; simp [va_up]
              · rw [aU_n (by omega), h164]; simp only [va_up, if_neg e]; exact hl.2.1 a ha
            · unfold rPush at hb ⊢
              have hra := (hl.1 a ha).1
              by_cases e : a = c
              · subst e
                simp only [va_up, if_true] at hb ⊢
                by_cases e2 : b = r.1 a
                · subst e2
                  simp only [if_true]
                  have hj3 : j = 3 * a + r.1 a := by omega
                  rw [hj3]
                  exact ⟨by rw [aU_n (by omega)]; exact hu, by rw [aU_n (by omega)]; exact hd, fun q hq => by rw [aU_n (by omega)]; exact hp q hq⟩
                · rw [if_neg (show ¬ a * 3 + b = a * 3 + r.1 a by omega), if_neg (show ¬ a * 3 + b = a * 3 + r.1 a by omega)]
                  obtain ⟨y1, y2, y3⟩ := hl.2.2.1 a b j ha (by omega) hj
                  exact ⟨by rw [aU_n (by omega), hk 165 j (by omega) (by omega) (by omega)]; exact y1, by rw [aU_n (by omega), hk 166 j (by omega) (by omega) (by omega)]; exact y2, fun q hq => by rw [aU_n (by omega), hk 167 _ (by omega) (by omega) (by omega)]; exact y3 q hq⟩
              · simp only [va_up, if_neg e] at hb ⊢
                rw [if_neg (show ¬ a * 3 + b = c * 3 + r.1 c by omega), if_neg (show ¬ a * 3 + b = c * 3 + r.1 c by omega)]
                obtain ⟨y1, y2, y3⟩ := hl.2.2.1 a b j ha hb hj
                exact ⟨by rw [aU_n (by omega), hk 165 j (by omega) (by omega) (by omega)]; exact y1, by rw [aU_n (by omega), hk 166 j (by omega) (by omega) (by omega)]; exact y2, fun q hq => by rw [aU_n (by omega), hk 167 _ (by omega) (by omega) (by omega)]; exact y3 q hq⟩, fun q j g => by rw [aU_n (by omega)]; exact hk q j (by omega) (by omega) (by omega)⟩)
    · refine aX_aload_n dX11_put_38 rfl ?_
      refine aX_get dX11_put_39 lfX11_32 s159 (f159_8 hR) ?_
      refine aX_bipush (v := nI 6) dX11_put_42 (by decide) ?_
      refine aX_iload dX11_put_44 rfl ?_
      refine nMul dX11_put_46 ?_
      refine aX_iload dX11_put_47 rfl ?_
      refine nAdd dX11_put_49 ?_
      refine aX_aload_n dX11_put_50 rfl ?_
      refine aX_iload_n dX11_put_51 rfl ?_
      refine aX_aload_n dX11_put_52 rfl ?_
      refine aX_get dX11_put_53 lfX11_35 s159 (f159_9 hR) ?_
      refine aX_iload dX11_put_56 rfl ?_
      refine nIald (v := nI (jP i)) dX11_put_58 s168 (by first | omega | exact Nat.lt_of_le_of_lt (Nat.mod_le _ _) (by omega)) (by decide) ((hk 168 i (by omega) (by omega) (by omega)).trans (hl.2.2.2 i (by omega)).1) ?_
      refine cVp (As := [.int (nI (u)), .int (nI (jP i))]) (st := [.int (nI ((6 * (3 * c + r.1 c)) + i)), .ref 167]) (v := .int (nI (jPw 14 u (jP i)))) dX11_put_59 kX11_put_139 s159 aEok0 rfl rfl (Nat.le_of_ble_eq_true rfl) (m_powerOf (by omega) (by omega) (by omega) (by omega)) ?_
      refine aX_aload_n dX11_put_62 rfl ?_
      refine aX_iload_n dX11_put_63 rfl ?_
      refine aX_aload_n dX11_put_64 rfl ?_
      refine aX_get dX11_put_65 lfX11_35 s159 (f159_9 hR) ?_
      refine aX_iload dX11_put_68 rfl ?_
      refine nIald (v := nI (jP i)) dX11_put_70 s168 (by first | omega | exact Nat.lt_of_le_of_lt (Nat.mod_le _ _) (by omega)) (by decide) ((hk 168 i (by omega) (by omega) (by omega)).trans (hl.2.2.2 i (by omega)).1) ?_
      refine cVp (As := [.int (nI (d)), .int (nI (jP i))]) (st := [.int (nI (jPw 14 u (jP i))), .int (nI ((6 * (3 * c + r.1 c)) + i)), .ref 167]) (v := .int (nI (jPw 14 d (jP i)))) dX11_put_71 kX11_put_139 s159 aEok0 rfl rfl (Nat.le_of_ble_eq_true rfl) (m_powerOf (by omega) (by omega) (by omega) (by omega)) ?_
      refine aX_isub dX11_put_74 ?_
      refine nIast dX11_put_75 s167 (by first | omega | exact Nat.lt_of_le_of_lt (Nat.mod_le _ _) (by omega)) (by decide) ?_
      refine nInc (lv' := [(0, .ref 159), (1, .int (nI (c))), (2, .int (nI (u))), (3, .int (nI (d))), (4, .int (nI (3 * c + r.1 c))), (5, .int (nI (i + 1)))]) dX11_put_76 rfl rfl (by decide) rfl ?_
      refine aX_goto (tgt := 31) dX11_put_79 (by decide) ?_
      exact ih (6 - (i + 1)) (by omega) (i + 1) (by omega) rfl _ (by rw [aU_n (by omega)]; exact hu) (by rw [aU_n (by omega)]; exact hd) (fun q hq => by
        by_cases e : q = i
        · subst e; rw [aU_s]; rfl
        · rw [aU_n (by omega)]; exact hp q (by omega)) (fun q j g1 g2 g3 => by rw [aU_n (by omega)]; exact hk q j g1 g2 g3) (fun j => by rw [aU_n (by omega)]; exact h164 j)
set_option maxHeartbeats 1000000 in
theorem m_put {I : Nat → Nat → Int32} {L : Nat → Nat → Int64} {R : Nat → Nat → Option Nat} (hR : aRf R) {r : jR} (hl : mlRep I r) {c u d : Nat} (hc : c < 12) (h3 : r.1 c < 3) (hu1 : 1 ≤ u) (hu2 : u ≤ 9999) (hd1 : 1 ≤ d) (hd2 : d ≤ 9999) : aM mX11_put [.ref 159, .int (nI c), .int (nI u), .int (nI d)] (sh0, I, L, R) (fun ans h' => ans = none ∧ ∃ I', h' = (sh0, I', L, R) ∧ mlRep I' (rPush r c u d) ∧ (∀ q j, (q < 164 ∨ 167 < q) → I' q j = I q j)) := by
  refine aM_of plX11_put (Nat.le_of_ble_eq_true rfl) ?_
  refine aX_iconst (v := nI 3) dX11_put_0 (by decide) ?_
  refine aX_iload_n dX11_put_1 rfl ?_
  refine nMul dX11_put_2 ?_
  refine aX_aload_n dX11_put_3 rfl ?_
  refine aX_get dX11_put_4 lfX11_23 s159 (f159_5 hR) ?_
  refine aX_iload_n dX11_put_7 rfl ?_
  refine nIald (v := nI (r.1 c)) dX11_put_8 s164 (by first | omega | exact Nat.lt_of_le_of_lt (Nat.mod_le _ _) (by omega)) (by decide) (hl.2.1 c hc) ?_
  refine nAdd dX11_put_9 ?_
  refine aX_istore (lv' := [(0, .ref 159), (1, .int (nI (c))), (2, .int (nI (u))), (3, .int (nI (d))), (4, .int (nI ((3 * c) + (r.1 c))))]) dX11_put_10 (by decide) rfl ?_
  refine aX_aload_n dX11_put_12 rfl ?_
  refine aX_get dX11_put_13 lfX11_26 s159 (f159_6 hR) ?_
  refine aX_iload dX11_put_16 rfl ?_
  refine aX_iload_n dX11_put_18 rfl ?_
  refine nIast dX11_put_19 s165 (by first | omega | exact Nat.lt_of_le_of_lt (Nat.mod_le _ _) (by omega)) (by decide) ?_
  refine aX_aload_n dX11_put_20 rfl ?_
  refine aX_get dX11_put_21 lfX11_29 s159 (f159_7 hR) ?_
  refine aX_iload dX11_put_24 rfl ?_
  refine aX_iload_n dX11_put_26 rfl ?_
  refine nIast dX11_put_27 s166 (by first | omega | exact Nat.lt_of_le_of_lt (Nat.mod_le _ _) (by omega)) (by decide) ?_
  refine aX_iconst (v := nI 0) dX11_put_28 (by decide) ?_
  refine aX_istore (lv' := [(0, .ref 159), (1, .int (nI (c))), (2, .int (nI (u))), (3, .int (nI (d))), (4, .int (nI ((3 * c) + (r.1 c)))), (5, .int (nI (0)))]) dX11_put_29 (by decide) rfl ?_
  exact ml_put hR hl hc h3 hu1 hu2 hd1 hd2 _ 0 (by omega) rfl _ (by rw [aU_n (by omega), aU_s]) (by rw [aU_s]) (fun q h => by omega) (fun q j g1 g2 g3 => by rw [aU_n (by omega), aU_n (by omega)]) (fun j => by rw [aU_n (by omega), aU_n (by omega)])
set_option maxHeartbeats 1000000 in
theorem ml_stripA {h : aH} {c u d q b : Nat} (hp2 : 2 ≤ jP q) (hp3 : jP q ≤ 13) (hob : b < 2 ^ 31) {Q : Option Value → aH → Prop} {x : Nat} (kk : aX mX11_ratio aE0 h 110 [(0, .ref 159), (1, .int (nI c)), (2, .int (nI u)), (3, .int (nI d)), (4, .int (nI x)), (5, .int (nI b)), (6, .int (nI q)), (7, .int (nI (jP q)))] [] 0 0 Q) : ∀ (a : Nat), 0 < a → a < 2 ^ 14 → x = jStr 14 a (jP q) → aX mX11_ratio aE0 h 92 [(0, .ref 159), (1, .int (nI c)), (2, .int (nI u)), (3, .int (nI d)), (4, .int (nI a)), (5, .int (nI b)), (6, .int (nI q)), (7, .int (nI (jP q)))] [] 0 0 Q := by
  intro a
  induction a using Nat.strongRecOn with
  | _ a ih =>
    intro h0 hv hx
    refine aX_iload dX11_ratio_92 rfl ?_
    refine aX_iload dX11_ratio_94 rfl ?_
    refine nRem dX11_ratio_96 (by first | omega | exact Nat.lt_of_le_of_lt (Nat.mod_le _ _) (by omega)) (by first | omega | exact Nat.lt_of_le_of_lt (Nat.mod_le _ _) (by omega)) (by first | omega | exact Nat.lt_of_le_of_lt (Nat.mod_le _ _) (by omega)) ?_
    refine nIf_ne (tgt := 110) dX11_ratio_97 (by decide) (by first | omega | exact Nat.lt_of_le_of_lt (Nat.mod_le _ _) (by omega)) (fun c1 => ?_) (fun c1 => ?_)
    · have e : x = a := by
        rw [hx]; show (if a % jP q = 0 then _ else a) = _; rw [if_neg (by omega)]
      rw [e] at kk
      exact kk
    · refine aX_iload dX11_ratio_100 rfl ?_
      refine aX_iload dX11_ratio_102 rfl ?_
      refine nDiv dX11_ratio_104 (by first | omega | exact Nat.lt_of_le_of_lt (Nat.mod_le _ _) (by omega)) (by first | omega | exact Nat.lt_of_le_of_lt (Nat.mod_le _ _) (by omega)) (by first | omega | exact Nat.lt_of_le_of_lt (Nat.mod_le _ _) (by omega)) ?_
      refine aX_istore (lv' := [(0, .ref 159), (1, .int (nI (c))), (2, .int (nI (u))), (3, .int (nI (d))), (4, .int (nI (a / (jP q)))), (5, .int (nI (b))), (6, .int (nI (q))), (7, .int (nI (jP q)))]) dX11_ratio_105 (by decide) rfl ?_
      refine aX_goto (tgt := 92) dX11_ratio_107 (by decide) ?_
      have hd1 : a / jP q < a := Nat.div_lt_self (by omega) (by omega)
      have hd0 : 0 < a / jP q := Nat.div_pos (Nat.le_of_dvd (by omega) (Nat.dvd_of_mod_eq_zero c1)) (by omega)
      have hd2 : a / jP q ≤ a / 2 := Nat.div_le_div_left hp2 (by decide)
      have hstep : jStr 14 a (jP q) = jStr 14 (a / jP q) (jP q) := by
        show (if a % jP q = 0 then jStr 13 (a / jP q) (jP q) else a) = _
        rw [if_pos c1, jStr_more 13 (a / jP q) (jP q) hp2 hd0 (by omega) 14 (by decide)]
      exact ih (a / jP q) hd1 hd0 (by omega) (by rw [← hstep]; exact hx)
set_option maxHeartbeats 1000000 in
theorem ml_stripB {h : aH} {c u d q a : Nat} (hp2 : 2 ≤ jP q) (hp3 : jP q ≤ 13) (hob : a < 2 ^ 31) {Q : Option Value → aH → Prop} {x : Nat} (kk : aX mX11_ratio aE0 h 128 [(0, .ref 159), (1, .int (nI c)), (2, .int (nI u)), (3, .int (nI d)), (4, .int (nI a)), (5, .int (nI x)), (6, .int (nI q)), (7, .int (nI (jP q)))] [] 0 0 Q) : ∀ (b : Nat), 0 < b → b < 2 ^ 14 → x = jStr 14 b (jP q) → aX mX11_ratio aE0 h 110 [(0, .ref 159), (1, .int (nI c)), (2, .int (nI u)), (3, .int (nI d)), (4, .int (nI a)), (5, .int (nI b)), (6, .int (nI q)), (7, .int (nI (jP q)))] [] 0 0 Q := by
  intro b
  induction b using Nat.strongRecOn with
  | _ b ih =>
    intro h0 hv hx
    refine aX_iload dX11_ratio_110 rfl ?_
    refine aX_iload dX11_ratio_112 rfl ?_
    refine nRem dX11_ratio_114 (by first | omega | exact Nat.lt_of_le_of_lt (Nat.mod_le _ _) (by omega)) (by first | omega | exact Nat.lt_of_le_of_lt (Nat.mod_le _ _) (by omega)) (by first | omega | exact Nat.lt_of_le_of_lt (Nat.mod_le _ _) (by omega)) ?_
    refine nIf_ne (tgt := 128) dX11_ratio_115 (by decide) (by first | omega | exact Nat.lt_of_le_of_lt (Nat.mod_le _ _) (by omega)) (fun c1 => ?_) (fun c1 => ?_)
    · have e : x = b := by
        rw [hx]; show (if b % jP q = 0 then _ else b) = _; rw [if_neg (by omega)]
      rw [e] at kk
      exact kk
    · refine aX_iload dX11_ratio_118 rfl ?_
      refine aX_iload dX11_ratio_120 rfl ?_
      refine nDiv dX11_ratio_122 (by first | omega | exact Nat.lt_of_le_of_lt (Nat.mod_le _ _) (by omega)) (by first | omega | exact Nat.lt_of_le_of_lt (Nat.mod_le _ _) (by omega)) (by first | omega | exact Nat.lt_of_le_of_lt (Nat.mod_le _ _) (by omega)) ?_
      refine aX_istore (lv' := [(0, .ref 159), (1, .int (nI (c))), (2, .int (nI (u))), (3, .int (nI (d))), (4, .int (nI (a))), (5, .int (nI (b / (jP q)))), (6, .int (nI (q))), (7, .int (nI (jP q)))]) dX11_ratio_123 (by decide) rfl ?_
      refine aX_goto (tgt := 110) dX11_ratio_125 (by decide) ?_
      have hd1 : b / jP q < b := Nat.div_lt_self (by omega) (by omega)
      have hd0 : 0 < b / jP q := Nat.div_pos (Nat.le_of_dvd (by omega) (Nat.dvd_of_mod_eq_zero c1)) (by omega)
      have hd2 : b / jP q ≤ b / 2 := Nat.div_le_div_left hp2 (by decide)
      have hstep : jStr 14 b (jP q) = jStr 14 (b / jP q) (jP q) := by
        show (if b % jP q = 0 then jStr 13 (b / jP q) (jP q) else b) = _
        rw [if_pos c1, jStr_more 13 (b / jP q) (jP q) hp2 hd0 (by omega) 14 (by decide)]
      exact ih (b / jP q) hd1 hd0 (by omega) (by rw [← hstep]; exact hx)
set_option maxHeartbeats 1000000 in
theorem ml_primes {I : Nat → Nat → Int32} {L : Nat → Nat → Int64} {R : Nat → Nat → Option Nat} (hR : aRf R) {r : jR} (hl : mlRep I r) {c u d : Nat} (hu1 : 0 < u) (hu2 : u ≤ 9999) (hd1 : 0 < d) (hd2 : d ≤ 9999) {Q : Option Value → aH → Prop} (kb : jShr u d 6 = true → Q (some (.int (-1))) (sh0, I, L, R)) (kk : jShr u d 6 = false → aX mX11_ratio aE0 (sh0, I, L, R) 134 [(0, .ref 159), (1, .int (nI c)), (2, .int (nI u)), (3, .int (nI d)), (4, .int (nI (jSmR u 6))), (5, .int (nI (jSmR d 6))), (6, .int (nI 6))] [] 0 0 Q) : ∀ (k9 q : Nat), q ≤ 6 → 6 - q = k9 → (∀ p, p < q → ¬ (jSmR u p % jP p = 0 ∧ jSmR d p % jP p = 0)) → aX mX11_ratio aE0 (sh0, I, L, R) 58 [(0, .ref 159), (1, .int (nI (c))), (2, .int (nI (u))), (3, .int (nI (d))), (4, .int (nI (jSmR u q))), (5, .int (nI (jSmR d q))), (6, .int (nI (q)))] [] 0 0 Q := by
  intro k9
  induction k9 using Nat.strongRecOn with
  | _ k9 ih =>
    intro q hi hk9  hno
    refine aX_iload dX11_ratio_58 rfl ?_
    refine aX_bipush (v := nI 6) dX11_ratio_60 (by decide) ?_
    refine nGe (tgt := 134) dX11_ratio_62 (by decide) (by first | omega | exact Nat.lt_of_le_of_lt (Nat.mod_le _ _) (by omega)) (by first | omega | exact Nat.lt_of_le_of_lt (Nat.mod_le _ _) (by omega)) (fun c1 => ?_) (fun c1 => ?_)
    · obtain rfl : q = 6 := by omega
      refine kk (jShr_f 6 (fun p hp hh => ?_))
      have a1 := jSmR_keep hp (Nat.dvd_of_mod_eq_zero hh.1) p (Nat.le_refl _)
      have a2 := jSmR_keep hp (Nat.dvd_of_mod_eq_zero hh.2) p (Nat.le_refl _)
      exact hno p hp ⟨Nat.mod_eq_zero_of_dvd a1, Nat.mod_eq_zero_of_dvd a2⟩
    · have hjp := jP_in c1
      have s1 := jSmR_pos hu1 q (by omega)
      have s2 := jSmR_pos hd1 q (by omega)
      have l1 := Nat.le_of_dvd hu1 s1.2
      have l2 := Nat.le_of_dvd hd1 s2.2
      refine aX_aload_n dX11_ratio_65 rfl ?_
      refine aX_get dX11_ratio_66 lfX11_35 s159 (f159_9 hR) ?_
      refine aX_iload dX11_ratio_69 rfl ?_
      refine nIald (v := nI (jP q)) dX11_ratio_71 s168 (by first | omega | exact Nat.lt_of_le_of_lt (Nat.mod_le _ _) (by omega)) (by decide) ((hl.2.2.2 q (by omega)).1) ?_
      refine aX_istore (lv' := [(0, .ref 159), (1, .int (nI (c))), (2, .int (nI (u))), (3, .int (nI (d))), (4, .int (nI (jSmR u q))), (5, .int (nI (jSmR d q))), (6, .int (nI (q))), (7, .int (nI (jP q)))]) dX11_ratio_72 (by decide) rfl ?_
      refine aX_iload dX11_ratio_74 rfl ?_
      refine aX_iload dX11_ratio_76 rfl ?_
      refine nRem dX11_ratio_78 (by first | omega | exact Nat.lt_of_le_of_lt (Nat.mod_le _ _) (by omega)) (by first | omega | exact Nat.lt_of_le_of_lt (Nat.mod_le _ _) (by omega)) (by first | omega | exact Nat.lt_of_le_of_lt (Nat.mod_le _ _) (by omega)) ?_
      refine nIf_ne (tgt := 92) dX11_ratio_79 (by decide) (by first | omega | exact Nat.lt_of_le_of_lt (Nat.mod_le _ _) (by omega)) (fun c2 => ?_) (fun c2 => ?_)
      · refine ml_stripA (by omega) (by omega) (by omega) (x := jSmR u (q + 1)) ?_ (jSmR u q) s1.1 (by omega) rfl
        have s3 := jSmR_pos hu1 (q + 1) (by omega)
        have l3 := Nat.le_of_dvd hu1 s3.2
        refine ml_stripB (by omega) (by omega) (by omega) (x := jSmR d (q + 1)) ?_ (jSmR d q) s2.1 (by omega) rfl
        refine nInc (lv' := [(0, .ref 159), (1, .int (nI (c))), (2, .int (nI (u))), (3, .int (nI (d))), (4, .int (nI (jSmR u (q + 1)))), (5, .int (nI (jSmR d (q + 1)))), (6, .int (nI (q + 1))), (7, .int (nI (jP q)))]) dX11_ratio_128 rfl rfl (by decide) rfl ?_
        refine aX_goto (tgt := 58) dX11_ratio_131 (by decide) ?_
        refine aX_lv (lv' := [(0, .ref 159), (1, .int (nI (c))), (2, .int (nI (u))), (3, .int (nI (d))), (4, .int (nI (jSmR u (q + 1)))), (5, .int (nI (jSmR d (q + 1)))), (6, .int (nI (q + 1)))]) [0, 1, 2, 3, 4, 5, 6] rfl ?_
        exact ih (6 - (q + 1)) (by omega) (q + 1) (by omega) rfl (fun p hp => by
          by_cases e : p = q
          · subst e; omega
          · exact hno p (by omega))
      · refine aX_iload dX11_ratio_82 rfl ?_
        refine aX_iload dX11_ratio_84 rfl ?_
        refine nRem dX11_ratio_86 (by first | omega | exact Nat.lt_of_le_of_lt (Nat.mod_le _ _) (by omega)) (by first | omega | exact Nat.lt_of_le_of_lt (Nat.mod_le _ _) (by omega)) (by first | omega | exact Nat.lt_of_le_of_lt (Nat.mod_le _ _) (by omega)) ?_
        refine nIf_ne (tgt := 92) dX11_ratio_87 (by decide) (by first | omega | exact Nat.lt_of_le_of_lt (Nat.mod_le _ _) (by omega)) (fun c3 => ?_) (fun c3 => ?_)
        · refine ml_stripA (by omega) (by omega) (by omega) (x := jSmR u (q + 1)) ?_ (jSmR u q) s1.1 (by omega) rfl
          have s3 := jSmR_pos hu1 (q + 1) (by omega)
          have l3 := Nat.le_of_dvd hu1 s3.2
          refine ml_stripB (by omega) (by omega) (by omega) (x := jSmR d (q + 1)) ?_ (jSmR d q) s2.1 (by omega) rfl
          refine nInc (lv' := [(0, .ref 159), (1, .int (nI (c))), (2, .int (nI (u))), (3, .int (nI (d))), (4, .int (nI (jSmR u (q + 1)))), (5, .int (nI (jSmR d (q + 1)))), (6, .int (nI (q + 1))), (7, .int (nI (jP q)))]) dX11_ratio_128 rfl rfl (by decide) rfl ?_
          refine aX_goto (tgt := 58) dX11_ratio_131 (by decide) ?_
          refine aX_lv (lv' := [(0, .ref 159), (1, .int (nI (c))), (2, .int (nI (u))), (3, .int (nI (d))), (4, .int (nI (jSmR u (q + 1)))), (5, .int (nI (jSmR d (q + 1)))), (6, .int (nI (q + 1)))]) [0, 1, 2, 3, 4, 5, 6] rfl ?_
          exact ih (6 - (q + 1)) (by omega) (q + 1) (by omega) rfl (fun p hp => by
            by_cases e : p = q
            · subst e; omega
            · exact hno p (by omega))
        · refine aX_iconst (v := (-1)) dX11_ratio_90 (by decide) ?_
          exact rI dX11_ratio_91 rfl (kb (jShr_t 6 q (by omega) (Nat.mod_eq_zero_of_dvd (Nat.dvd_trans (Nat.dvd_of_mod_eq_zero c2) s1.2)) (Nat.mod_eq_zero_of_dvd (Nat.dvd_trans (Nat.dvd_of_mod_eq_zero c3) s2.2))))
set_option maxHeartbeats 1000000 in
theorem ml_holds {I : Nat → Nat → Int32} {L : Nat → Nat → Int64} {R : Nat → Nat → Option Nat} (hR : aRf R) {r : jR} (hl : mlRep I r) {c u d : Nat} (hc : c < 12) (hu2 : u ≤ 9999) (hd2 : d ≤ 9999) {Q : Option Value → aH → Prop} {a b : Nat} (ha31 : a < 2 ^ 31) (hb31 : b < 2 ^ 31) (kb : jHas r c (nI u) (nI d) (r.1 c) = true → Q (some (.int (-1))) (sh0, I, L, R)) (kk : jHas r c (nI u) (nI d) (r.1 c) = false → aX mX11_ratio aE0 (sh0, I, L, R) 200 [(0, .ref 159), (1, .int (nI c)), (2, .int (nI u)), (3, .int (nI d)), (4, .int (nI a)), (5, .int (nI b)), (6, .int (nI (r.1 c)))] [] 0 0 Q) : ∀ (k9 k : Nat), k ≤ r.1 c → (r.1 c) - k = k9 → jHas r c (nI u) (nI d) k = false → aX mX11_ratio aE0 (sh0, I, L, R) 151 [(0, .ref 159), (1, .int (nI (c))), (2, .int (nI (u))), (3, .int (nI (d))), (4, .int (nI (a))), (5, .int (nI (b))), (6, .int (nI (k)))] [] 0 0 Q := by
  intro k9
  induction k9 using Nat.strongRecOn with
  | _ k9 ih =>
    intro k hi hk9  hno
    have hrk := (hl.1 c hc).1
    refine aX_iload dX11_ratio_151 rfl ?_
    refine aX_aload_n dX11_ratio_153 rfl ?_
    refine aX_get dX11_ratio_154 lfX11_23 s159 (f159_5 hR) ?_
    refine aX_iload_n dX11_ratio_157 rfl ?_
    refine nIald (v := nI (r.1 c)) dX11_ratio_158 s164 (by first | omega | exact Nat.lt_of_le_of_lt (Nat.mod_le _ _) (by omega)) (by decide) (hl.2.1 c hc) ?_
    refine nGe (tgt := 200) dX11_ratio_159 (by decide) (by first | omega | exact Nat.lt_of_le_of_lt (Nat.mod_le _ _) (by omega)) (by first | omega | exact Nat.lt_of_le_of_lt (Nat.mod_le _ _) (by omega)) (fun c1 => ?_) (fun c1 => ?_)
    · obtain rfl : k = r.1 c := by omega
      exact kk hno
    · obtain ⟨y1, y2, _⟩ := hl.2.2.1 c k (3 * c + k) hc c1 (by omega)
      have hrr := (hl.1 c hc).2 k c1
      refine aX_aload_n dX11_ratio_162 rfl ?_
      refine aX_get dX11_ratio_163 lfX11_26 s159 (f159_6 hR) ?_
      refine aX_iconst (v := nI 3) dX11_ratio_166 (by decide) ?_
      refine aX_iload_n dX11_ratio_167 rfl ?_
      refine nMul dX11_ratio_168 ?_
      refine aX_iload dX11_ratio_169 rfl ?_
      refine nAdd dX11_ratio_171 ?_
      refine nIald (v := nI (r.2.1 (c * 3 + k))) dX11_ratio_172 s165 (by first | omega | exact Nat.lt_of_le_of_lt (Nat.mod_le _ _) (by omega)) (by decide) (y1) ?_
      refine aX_iload_n dX11_ratio_173 rfl ?_
      refine nNe (tgt := 194) dX11_ratio_174 (by decide) (by first | omega | exact Nat.lt_of_le_of_lt (Nat.mod_le _ _) (by omega)) (by first | omega | exact Nat.lt_of_le_of_lt (Nat.mod_le _ _) (by omega)) (fun c2 => ?_) (fun c2 => ?_)
      · refine nInc (lv' := [(0, .ref 159), (1, .int (nI (c))), (2, .int (nI (u))), (3, .int (nI (d))), (4, .int (nI (a))), (5, .int (nI (b))), (6, .int (nI (k + 1)))]) dX11_ratio_194 rfl rfl (by decide) rfl ?_
        refine aX_goto (tgt := 151) dX11_ratio_197 (by decide) ?_
        exact ih (r.1 c - (k + 1)) (by omega) (k + 1) (by omega) rfl (by show (jHas r c (nI u) (nI d) k || (decide (nI (r.2.1 (c * 3 + k)) = nI u) && decide (nI (r.2.2 (c * 3 + k)) = nI d))) = false; rw [hno]; simp only [Bool.false_or, Bool.and_eq_false_iff, decide_eq_false_iff_not, nI_eq (show r.2.1 (c * 3 + k) < 2 ^ 31 by omega) (show u < 2 ^ 31 by omega), nI_eq (show r.2.2 (c * 3 + k) < 2 ^ 31 by omega) (show d < 2 ^ 31 by omega)]; omega)
      · refine aX_aload_n dX11_ratio_177 rfl ?_
        refine aX_get dX11_ratio_178 lfX11_29 s159 (f159_7 hR) ?_
        refine aX_iconst (v := nI 3) dX11_ratio_181 (by decide) ?_
        refine aX_iload_n dX11_ratio_182 rfl ?_
        refine nMul dX11_ratio_183 ?_
        refine aX_iload dX11_ratio_184 rfl ?_
        refine nAdd dX11_ratio_186 ?_
        refine nIald (v := nI (r.2.2 (c * 3 + k))) dX11_ratio_187 s166 (by first | omega | exact Nat.lt_of_le_of_lt (Nat.mod_le _ _) (by omega)) (by decide) (y2) ?_
        refine aX_iload_n dX11_ratio_188 rfl ?_
        refine nNe (tgt := 194) dX11_ratio_189 (by decide) (by first | omega | exact Nat.lt_of_le_of_lt (Nat.mod_le _ _) (by omega)) (by first | omega | exact Nat.lt_of_le_of_lt (Nat.mod_le _ _) (by omega)) (fun c3 => ?_) (fun c3 => ?_)
        · refine nInc (lv' := [(0, .ref 159), (1, .int (nI (c))), (2, .int (nI (u))), (3, .int (nI (d))), (4, .int (nI (a))), (5, .int (nI (b))), (6, .int (nI (k + 1)))]) dX11_ratio_194 rfl rfl (by decide) rfl ?_
          refine aX_goto (tgt := 151) dX11_ratio_197 (by decide) ?_
          exact ih (r.1 c - (k + 1)) (by omega) (k + 1) (by omega) rfl (by show (jHas r c (nI u) (nI d) k || (decide (nI (r.2.1 (c * 3 + k)) = nI u) && decide (nI (r.2.2 (c * 3 + k)) = nI d))) = false; rw [hno]; simp only [Bool.false_or, Bool.and_eq_false_iff, decide_eq_false_iff_not, nI_eq (show r.2.1 (c * 3 + k) < 2 ^ 31 by omega) (show u < 2 ^ 31 by omega), nI_eq (show r.2.2 (c * 3 + k) < 2 ^ 31 by omega) (show d < 2 ^ 31 by omega)]; omega)
        · refine aX_iconst (v := (-1)) dX11_ratio_192 (by decide) ?_
          exact rI dX11_ratio_193 rfl (kb (jHas_at (i := k) (by rw [show r.2.1 (c * 3 + k) = u by omega]) (by rw [show r.2.2 (c * 3 + k) = d by omega]) _ (by omega)))
set_option maxHeartbeats 1000000 in
theorem m10_ratio {I : Nat → Nat → Int32} {L : Nat → Nat → Int64} {R : Nat → Nat → Option Nat} (hR : aRf R) {z : jZ} (hz : mmRep I L z) {x u d : Int32} : aM mX11_ratio [.ref 159, .int x, .int u, .int d] (sh0, I, L, R) (fun ans h' => ans = some (.int (oRatio z x u d).1) ∧ ∃ I' L', h' = (sh0, I', L', R) ∧ mmRep I' L' (oRatio z x u d).2 ∧ mmK I I' ∧ mmKL L L') := by
  obtain ⟨hs, ho, h6, hl, hg, hw, hS, hcn, h12, h13, hpc, hcz, hpz, hpr, htx⟩ := id hz
  have hn := ho.1
  have hSl := jS_len z.1
  refine aM_of plX11_ratio (Nat.le_of_ble_eq_true rfl) ?_
  refine aX_aload_n dX11_ratio_0 rfl ?_
  refine aX_iload_n dX11_ratio_1 rfl ?_
  refine aX_iconst (v := nI 0) dX11_ratio_2 (by decide) ?_
  refine aX_bipush (v := nI 11) dX11_ratio_3 (by decide) ?_
  refine cVp (As := [.int (x), .int (nI (0)), .int (nI (11))]) (st := []) (v := .int (bI (decide (nI (0) ≤ x) && decide (x ≤ nI (11))))) dX11_ratio_5 kX11_ratio_180 s159 aEok0 rfl rfl (Nat.le_of_ble_eq_true rfl) (m_isIn) ?_
  refine bEq (tgt := 47) dX11_ratio_8 (by decide) (fun c1 => ?_) (fun c1 => ?_)
  · have hix : jIx x 12 = false := by rw [← jIx_isIn (a := 11) (by decide)]; exact c1
    refine aX_iconst (v := (-1)) dX11_ratio_47 (by decide) ?_
    exact rI dX11_ratio_48 rfl (by rw [show oRatio z x u d = (-1, z) by unfold oRatio; rw [if_neg (by rw [hix]; simp)]]; exact ⟨rfl, I, L, rfl, hz, fun _ _ _ => rfl, fun _ _ _ => rfl⟩)
  · have hix : jIx x 12 = true := by rw [← jIx_isIn (a := 11) (by decide)]; exact c1
    obtain ⟨c, hcc, rfl⟩ := jIx_t (by omega) hix
    have hrk := (hl.1 c hcc).1
    refine aX_aload_n dX11_ratio_11 rfl ?_
    refine aX_iload_n dX11_ratio_12 rfl ?_
    refine aX_iconst (v := nI 1) dX11_ratio_13 (by decide) ?_
    refine aX_sipush (v := nI 9999) dX11_ratio_14 (by decide) ?_
    refine cVp (As := [.int (u), .int (nI (1)), .int (nI (9999))]) (st := []) (v := .int (bI (decide (nI (1) ≤ u) && decide (u ≤ nI (9999))))) dX11_ratio_17 kX11_ratio_180 s159 aEok0 rfl rfl (Nat.le_of_ble_eq_true rfl) (m_isIn) ?_
    refine bEq (tgt := 47) dX11_ratio_20 (by decide) (fun c2 => ?_) (fun c2 => ?_)
    · have t1 : jTn u = false := c2
      refine aX_iconst (v := (-1)) dX11_ratio_47 (by decide) ?_
      exact rI dX11_ratio_48 rfl (by rw [show oRatio z (nI c) u d = (-1, z) by unfold oRatio; rw [if_neg (by rw [show jAl u d = false by unfold jAl; rw [t1]; rfl]; simp)]]; exact ⟨rfl, I, L, rfl, hz, fun _ _ _ => rfl, fun _ _ _ => rfl⟩)
    · have t1 : jTn u = true := c2
      obtain ⟨ku, v1, v2, rfl⟩ := jTn_t t1
      refine aX_aload_n dX11_ratio_23 rfl ?_
      refine aX_iload_n dX11_ratio_24 rfl ?_
      refine aX_iconst (v := nI 1) dX11_ratio_25 (by decide) ?_
      refine aX_sipush (v := nI 9999) dX11_ratio_26 (by decide) ?_
      refine cVp (As := [.int (d), .int (nI (1)), .int (nI (9999))]) (st := []) (v := .int (bI (decide (nI (1) ≤ d) && decide (d ≤ nI (9999))))) dX11_ratio_29 kX11_ratio_180 s159 aEok0 rfl rfl (Nat.le_of_ble_eq_true rfl) (m_isIn) ?_
      refine bEq (tgt := 47) dX11_ratio_32 (by decide) (fun c3 => ?_) (fun c3 => ?_)
      · have t2 : jTn d = false := c3
        refine aX_iconst (v := (-1)) dX11_ratio_47 (by decide) ?_
        exact rI dX11_ratio_48 rfl (by rw [show oRatio z (nI c) (nI ku) d = (-1, z) by unfold oRatio; rw [if_neg (by rw [show jAl (nI ku) d = false by unfold jAl; rw [t1, t2]; rfl]; simp)]]; exact ⟨rfl, I, L, rfl, hz, fun _ _ _ => rfl, fun _ _ _ => rfl⟩)
      · have t2 : jTn d = true := c3
        obtain ⟨kd, v3, v4, rfl⟩ := jTn_t t2
        have hal : ∀ y, jAlN ku kd = y → jAl (nI ku) (nI kd) = y := fun y hy => by unfold jAl; rw [t1, t2, nI_clamp (by omega), nI_clamp (by omega), hy]; rfl
        refine aX_iload_n dX11_ratio_35 rfl ?_
        refine aX_iload_n dX11_ratio_36 rfl ?_
        refine nLt (tgt := 47) dX11_ratio_37 (by decide) (by first | omega | exact Nat.lt_of_le_of_lt (Nat.mod_le _ _) (by omega)) (by first | omega | exact Nat.lt_of_le_of_lt (Nat.mod_le _ _) (by omega)) (fun c4 => ?_) (fun c4 => ?_)
        · have hna := hal false (by unfold jAlN; simp; omega)
          refine aX_iconst (v := (-1)) dX11_ratio_47 (by decide) ?_
          exact rI dX11_ratio_48 rfl (by rw [show oRatio z (nI c) (nI ku) (nI kd) = (-1, z) by unfold oRatio; rw [if_neg (by rw [hna]; simp)]]; exact ⟨rfl, I, L, rfl, hz, fun _ _ _ => rfl, fun _ _ _ => rfl⟩)
        · refine aX_iload_n dX11_ratio_40 rfl ?_
          refine aX_iconst (v := nI 2) dX11_ratio_41 (by decide) ?_
          refine aX_iload_n dX11_ratio_42 rfl ?_
          refine nMul dX11_ratio_43 ?_
          refine nLt (tgt := 49) dX11_ratio_44 (by decide) (by first | omega | exact Nat.lt_of_le_of_lt (Nat.mod_le _ _) (by omega)) (by first | omega | exact Nat.lt_of_le_of_lt (Nat.mod_le _ _) (by omega)) (fun c5 => ?_) (fun c5 => ?_)
          · refine aX_iload_n dX11_ratio_49 rfl ?_
            refine aX_istore (lv' := [(0, .ref 159), (1, .int (nI (c))), (2, .int (nI (ku))), (3, .int (nI (kd))), (4, .int (nI (ku)))]) dX11_ratio_50 (by decide) rfl ?_
            refine aX_iload_n dX11_ratio_52 rfl ?_
            refine aX_istore (lv' := [(0, .ref 159), (1, .int (nI (c))), (2, .int (nI (ku))), (3, .int (nI (kd))), (4, .int (nI (ku))), (5, .int (nI (kd)))]) dX11_ratio_53 (by decide) rfl ?_
            refine aX_iconst (v := nI 0) dX11_ratio_55 (by decide) ?_
            refine aX_istore (lv' := [(0, .ref 159), (1, .int (nI (c))), (2, .int (nI (ku))), (3, .int (nI (kd))), (4, .int (nI (ku))), (5, .int (nI (kd))), (6, .int (nI (0)))]) dX11_ratio_56 (by decide) rfl ?_
            refine ml_primes hR hl (by omega) v2 (by omega) v4 (fun hsh => by rw [show oRatio z (nI c) (nI ku) (nI kd) = (-1, z) by unfold oRatio; rw [if_neg (by rw [hal false (by unfold jAlN; simp [hsh])]; simp)]]; exact ⟨rfl, I, L, rfl, hz, fun _ _ _ => rfl, fun _ _ _ => rfl⟩) (fun hsh => ?_) _ 0 (by omega) rfl (fun p hp => by omega)
            have s1 := jSmR_pos (show 0 < ku by omega) 6 (by omega)
            have s2 := jSmR_pos (show 0 < kd by omega) 6 (by omega)
            have l1 := Nat.le_of_dvd (show 0 < ku by omega) s1.2
            have l2 := Nat.le_of_dvd (show 0 < kd by omega) s2.2
            refine aX_iload dX11_ratio_134 rfl ?_
            refine aX_iconst (v := nI 1) dX11_ratio_136 (by decide) ?_
            refine nNe (tgt := 146) dX11_ratio_137 (by decide) (by first | omega | exact Nat.lt_of_le_of_lt (Nat.mod_le _ _) (by omega)) (by first | omega | exact Nat.lt_of_le_of_lt (Nat.mod_le _ _) (by omega)) (fun c1 => ?_) (fun c1 => ?_)
            · have hna := hal false (by unfold jAlN jSmall; simp [c1])
              refine aX_iconst (v := (-1)) dX11_ratio_146 (by decide) ?_
              exact rI dX11_ratio_147 rfl (by rw [show oRatio z (nI c) (nI ku) (nI kd) = (-1, z) by unfold oRatio; rw [if_neg (by rw [hna]; simp)]]; exact ⟨rfl, I, L, rfl, hz, fun _ _ _ => rfl, fun _ _ _ => rfl⟩)
            · have c_a := c1
              refine aX_iload dX11_ratio_140 rfl ?_
              refine aX_iconst (v := nI 1) dX11_ratio_142 (by decide) ?_
              refine nEq (tgt := 148) dX11_ratio_143 (by decide) (by first | omega | exact Nat.lt_of_le_of_lt (Nat.mod_le _ _) (by omega)) (by first | omega | exact Nat.lt_of_le_of_lt (Nat.mod_le _ _) (by omega)) (fun c2 => ?_) (fun c2 => ?_)
              · have hya := hal true (by unfold jAlN jSmall; simp [c_a, c2, hsh]; omega)
                refine aX_iconst (v := nI 0) dX11_ratio_148 (by decide) ?_
                refine aX_istore (lv' := [(0, .ref 159), (1, .int (nI (c))), (2, .int (nI (ku))), (3, .int (nI (kd))), (4, .int (nI (jSmR ku 6))), (5, .int (nI (jSmR kd 6))), (6, .int (nI (0)))]) dX11_ratio_149 (by decide) rfl ?_
                have hoc : ∀ y, jHas z.2.1 c (nI ku) (nI kd) (z.2.1.1 c) = y → oRatio z (nI c) (nI ku) (nI kd) = if y then (-1, z) else if 3 ≤ z.2.1.1 c then (-3, z) else (nI (z.2.1.1 c), z.1, rPush z.2.1 c ku kd, z.2.2.1, false, false, z.2.2.2.2.2) := fun y hy => by
                  unfold oRatio
                  simp only [nI_clamp (show c < 2 ^ 31 by omega), nI_clamp (show ku < 2 ^ 31 by omega), nI_clamp (show kd < 2 ^ 31 by omega), hix, hya, hy]
                  cases y <;> simp
                refine ml_holds hR hl hcc v2 v4 (by omega) (by omega) (fun hh => by rw [hoc true hh]; exact ⟨rfl, I, L, rfl, hz, fun _ _ _ => rfl, fun _ _ _ => rfl⟩) (fun hh => ?_) _ 0 (by omega) rfl rfl
                refine aX_aload_n dX11_ratio_200 rfl ?_
                refine aX_get dX11_ratio_201 lfX11_23 s159 (f159_5 hR) ?_
                refine aX_iload_n dX11_ratio_204 rfl ?_
                refine nIald (v := nI (z.2.1.1 c)) dX11_ratio_205 s164 (by first | omega | exact Nat.lt_of_le_of_lt (Nat.mod_le _ _) (by omega)) (by decide) (hl.2.1 c hcc) ?_
                refine aX_iconst (v := nI 3) dX11_ratio_206 (by decide) ?_
                refine nNe (tgt := 213) dX11_ratio_207 (by decide) (by first | omega | exact Nat.lt_of_le_of_lt (Nat.mod_le _ _) (by omega)) (by first | omega | exact Nat.lt_of_le_of_lt (Nat.mod_le _ _) (by omega)) (fun c1 => ?_) (fun c1 => ?_)
                · refine aX_aload_n dX11_ratio_213 rfl ?_
                  refine aX_iload_n dX11_ratio_214 rfl ?_
                  refine aX_iload_n dX11_ratio_215 rfl ?_
                  refine aX_iload_n dX11_ratio_216 rfl ?_
                  refine cV (As := [.int (nI (c)), .int (nI (ku)), .int (nI (kd))]) (st := []) dX11_ratio_217 kX11_ratio_132 s159 aEok0 rfl rfl (Nat.le_of_ble_eq_true rfl) (m_put hR hl hcc (by omega) v1 v2 v3 v4) (fun ans' h' hq9 => ?_)
                  obtain ⟨rfl, I3, rfl, hl3, hk3⟩ := hq9
                  refine ⟨rfl, ?_⟩
                  have hjn : jAlN ku kd = true := by
                    have y := hya
                    unfold jAl at y
                    rw [t1, t2, nI_clamp (by omega), nI_clamp (by omega)] at y
                    exact y
                  have hg3 : rGood (rPush z.2.1 c ku kd) := fun a i ha hi => by
                    unfold rPush at hi ⊢
                    have hrc := (hl.1 a ha).1
                    by_cases e : a = c
                    · subst e
                      simp only [va_up, if_true] at hi ⊢
                      by_cases e2 : i = z.2.1.1 a
                      · subst e2; simp [hjn]
                      · rw [if_neg (by omega), if_neg (by omega)]; exact hg a i ha (by omega)
                    · simp only [va_up, if_neg e] at hi ⊢
                      rw [if_neg (by omega), if_neg (by omega)]; exact hg a i ha hi
                  refine aX_aload_n dX11_ratio_220 rfl ?_
                  refine cV (As := []) (st := []) dX11_ratio_221 kX11_ratio_136 s159 aEok0 rfl rfl (Nat.le_of_ble_eq_true rfl) (m_divide hR (mnRep_of (fun q j g => hk3 q j (by omega)) hs) ho hl3) (fun ans' h' hq9 => ?_)
                  obtain ⟨rfl, I5, rfl, d1, d2, d3, d4, d5, d6, d7⟩ := hq9
                  refine ⟨rfl, ?_⟩
                  refine aX_aload_n dX11_ratio_224 rfl ?_
                  refine aX_get dX11_ratio_225 lfX11_23 s159 (f159_5 hR) ?_
                  refine aX_iload_n dX11_ratio_228 rfl ?_
                  refine nIald (v := nI (z.2.1.1 c + 1)) dX11_ratio_229 s164 (by first | omega | exact Nat.lt_of_le_of_lt (Nat.mod_le _ _) (by omega)) (by decide) ((d3.2.1 c hcc).trans (by unfold rPush; simp [va_up])) ?_
                  refine aX_iconst (v := nI 1) dX11_ratio_230 (by decide) ?_
                  refine nSub dX11_ratio_231 (by first | omega | exact Nat.lt_of_le_of_lt (Nat.mod_le _ _) (by omega)) ?_
                  exact rI dX11_ratio_232 rfl (by rw [hoc false hh, if_neg Bool.false_ne_true, if_neg (by omega)]; exact ⟨rfl, I5, L, rfl, mmRep_new ho h6 hg3 (mwRep_of (fun j => hk3 170 j (by omega)) hw) (prRep_of (hk3 159 34 (by omega)) (fun _ => rfl) hpr) (mtRep_of (fun q j g => hk3 q j (by omega)) htx) d1 d2 d3 d4 d5 d6 d7, fun q j g => (d7 q j (by omega) (by omega)).trans (hk3 q j (by omega)), fun _ _ _ => rfl⟩)
                · refine aX_bipush (v := (-3)) dX11_ratio_210 (by decide) ?_
                  exact rI dX11_ratio_212 rfl (by rw [hoc false hh, if_neg Bool.false_ne_true, if_pos (by omega)]; exact ⟨rfl, I, L, rfl, hz, fun _ _ _ => rfl, fun _ _ _ => rfl⟩)
              · have hna := hal false (by unfold jAlN jSmall; simp [c2])
                refine aX_iconst (v := (-1)) dX11_ratio_146 (by decide) ?_
                exact rI dX11_ratio_147 rfl (by rw [show oRatio z (nI c) (nI ku) (nI kd) = (-1, z) by unfold oRatio; rw [if_neg (by rw [hna]; simp)]]; exact ⟨rfl, I, L, rfl, hz, fun _ _ _ => rfl, fun _ _ _ => rfl⟩)
          · have hna := hal false (by unfold jAlN; simp; omega)
            refine aX_iconst (v := (-1)) dX11_ratio_47 (by decide) ?_
            exact rI dX11_ratio_48 rfl (by rw [show oRatio z (nI c) (nI ku) (nI kd) = (-1, z) by unfold oRatio; rw [if_neg (by rw [hna]; simp)]]; exact ⟨rfl, I, L, rfl, hz, fun _ _ _ => rfl, fun _ _ _ => rfl⟩)
