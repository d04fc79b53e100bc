/-! SIZES STAY SMALL -/
def lgN (p : Nat) : Nat := ([120000, 190196, 278631, 336883, 415132, 444053] : List Nat).getD p 0
theorem jLg_lgN : ∀ p, jLg p = nI (lgN p)
  | 0 => rfl
  | 1 => rfl
  | 2 => rfl
  | 3 => rfl
  | 4 => rfl
  | 5 => rfl
  | _ + 6 => rfl
def jElF (n : Nat) : Nat → Nat
  | 0 => 0
  | p + 1 => jElF n p + jPw 14 n (jP p) * lgN p
def jEl (n : Nat) : Nat := jElF n 6
theorem jSzF_eq (u d : Nat) : ∀ p, jSzF u d p = iZ ((jElF u p : Int) - (jElF d p : Int))
  | 0 => rfl
  | p + 1 => by
    show jSzF u d p + (nI (jPw 14 u (jP p)) - nI (jPw 14 d (jP p))) * jLg p = iZ (((jElF u p + jPw 14 u (jP p) * lgN p : Nat) : Int) - ((jElF d p + jPw 14 d (jP p) * lgN p : Nat) : Int))
    rw [jSzF_eq u d p, jLg_lgN, nZ, nZ, nZ, iZ_sub, iZ_mul, iZ_add]
    congr 1
    push_cast; grind
theorem jSize_eq (u d : Nat) : jSize u d = iZ ((jEl u : Int) - (jEl d : Int)) := jSzF_eq u d 6
def elOk (n : Nat) : Bool := !(decide (0 < n) && jSmall n) || (decide (120000 * Nat.log2 n ≤ jEl n + 40) && decide (jEl n ≤ 120000 * (Nat.log2 n + 1) + 40))
def elAll : Nat → Bool
  | 0 => true
  | n + 1 => elOk n && elAll n
theorem elAll_at : ∀ m n, elAll m = true → n < m → elOk n = true
  | 0, n, _, h => absurd h (by omega)
  | m + 1, n, ha, h => by
    have ha' : (elOk m && elAll m) = true := ha
    rw [Bool.and_eq_true] at ha'
    by_cases e : n = m
    · rw [e]; exact ha'.1
    · exact elAll_at m n ha'.2 (by omega)
theorem elAll_10000 : elAll 10000 = true := by decide +kernel
theorem el_in {n : Nat} (h0 : 0 < n) (h1 : n ≤ 9999) (hs : jSmall n = true) : 120000 * Nat.log2 n ≤ jEl n + 40 ∧ jEl n ≤ 120000 * (Nat.log2 n + 1) + 40 := by
  have := elAll_at 10000 n elAll_10000 (by omega)
  unfold elOk at this
  rw [hs] at this
  simp only [h0, decide_true, Bool.and_self, Bool.not_true, Bool.false_or, Bool.and_eq_true, decide_eq_true_eq] at this
  exact this
theorem el_al {u d : Nat} (hu : 0 < u) (hu2 : u ≤ 9999) (hd : 0 < d) (hd2 : d ≤ 9999) (h : jAlN u d = true) : -120080 ≤ (jEl u : Int) - (jEl d : Int) ∧ (jEl u : Int) - (jEl d : Int) ≤ 240080 := by
  unfold jAlN at h
  simp only [Bool.and_eq_true, decide_eq_true_eq] at h
  obtain ⟨⟨⟨⟨h1, h2⟩, h3⟩, h4⟩, _⟩ := h
  obtain ⟨a1, a2⟩ := el_in hu hu2 h3
  obtain ⟨b1, b2⟩ := el_in hd hd2 h4
  have c1 : Nat.log2 d ≤ Nat.log2 u := by
    refine Nat.le_of_not_lt (fun g => ?_)
    have e1 := Nat.lt_log2_self (n := u)
    have e2 := Nat.log2_self_le (n := d) (by omega)
    have e3 : 2 ^ (Nat.log2 u + 1) ≤ 2 ^ Nat.log2 d := Nat.pow_le_pow_right (by decide) g
    omega
  have c2 : Nat.log2 u ≤ Nat.log2 d + 1 := by
    refine Nat.le_of_not_lt (fun g => ?_)
    have e1 := Nat.lt_log2_self (n := d)
    have e2 := Nat.log2_self_le (n := u) (by omega)
    have e3 : 2 ^ (Nat.log2 d + 1 + 1) ≤ 2 ^ Nat.log2 u := Nat.pow_le_pow_right (by decide) g
    rw [Nat.pow_succ] at e3
    omega
  omega
/-- all listed ratios are allowed -/
def rGood (r : jR) : Prop := ∀ c i, c < 12 → i < r.1 c → jAlN (r.2.1 (c * 3 + i)) (r.2.2 (c * 3 + i)) = true
def jSz (r : jR) (sl : Nat) : Int := (jEl (jU r sl) : Int) - (jEl (jD r sl) : Int)
theorem jSz_in {r : jR} (hr : rOk r) (hg : rGood r) {sl : Nat} (h : slOk r sl) : -120080 ≤ jSz r sl ∧ jSz r sl ≤ 240080 := by
  unfold jSz
  rcases h with e | ⟨c, i, h1, h2, h3⟩
  · rw [e]; unfold jU jD; rw [if_pos rfl, if_pos rfl]; omega
  · have a := (hr c h1).2 i h2
    have b := (hr c h1).1
    unfold jU jD
    rw [if_neg (by omega), if_neg (by omega), h3]
    exact el_al a.1 a.2.1 a.2.2.1 a.2.2.2 (hg c i h1 h2)
