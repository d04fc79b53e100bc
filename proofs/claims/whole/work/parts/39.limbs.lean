/-! LIMBS: numbers by their digits to the base 2 ^ 30 -/
section ACN
variable {md : aMd} {E : aE} {h : aH} {pc : Nat} {lv : List (Nat × Value)} {st : List Value} {bc bs : Nat} {Q : Option Value → aH → Prop}
theorem nAlen {q n kd : Nat} (hd : decode md.2.1 pc = .ok (.arraylength, 1)) (hs : aSh h q = some (kd, n)) (hk : kd = 0 ∨ kd = 3) (k : aX md E h (pc + 1) lv (.int (nI n) :: st) bc bs Q) : aX md E h pc lv (.ref q :: st) bc bs Q := aX_alen hd hs hk k
theorem nAnd {a : Nat} {b : Int32} (m : Nat) (hd : decode md.2.1 pc = .ok (.iand, 1)) (hb : b = nI (2 ^ m - 1)) (hm : m < 31) (ha : a < 2 ^ 32) (k : aX md E h (pc + 1) lv (.int (nI (a % 2 ^ m)) :: st) bc bs Q) : aX md E h pc lv (.int b :: .int (nI a) :: st) bc bs Q := aX_iand hd (by
  have hp : 2 ^ m < 2 ^ 31 := Nat.pow_lt_pow_right (by decide) hm
  rw [hb, pk_andN ha m (by rw [pk_tn (by omega)])]; exact k)
theorem zIf_lt {v : Int} {off : Int} {tgt : Nat} (hd : decode md.2.1 pc = .ok (.ifCond .lt off, 3)) (ht : (pc : Int) + off = (tgt : Int)) (h1 : -2147483648 ≤ v) (h2 : v < 2147483648) (kt : v < 0 → aX md E h tgt lv st bc bs Q) (kf : 0 ≤ v → aX md E h (pc + 3) lv st bc bs Q) : aX md E h pc lv (.int (iZ v) :: st) bc bs Q :=
  aX_if_lt hd ht (fun c => kt ((iZ_lt h1 h2 (b := 0) (by decide) (by decide)).mp c)) (fun c => kf (Int.not_lt.mp (fun z => c ((iZ_lt h1 h2 (b := 0) (by decide) (by decide)).mpr z))))
end ACN
def jBB (i : Nat) : Int := (2 ^ 30) ^ i
theorem jBB_pos (i : Nat) : 0 < jBB i := Int.pow_pos (by decide)
theorem jBB_0 : jBB 0 = 1 := rfl
theorem jBB_s (i : Nat) : jBB (i + 1) = jBB i * 2 ^ 30 := Int.pow_succ ..
theorem jBB_nz (i : Nat) : jBB i ≠ 0 := Int.ne_of_gt (jBB_pos i)
theorem jBB_le {i j : Nat} (h : i ≤ j) : jBB i ≤ jBB j := by
  obtain ⟨d, rfl⟩ := Nat.exists_eq_add_of_le h
  induction d with
  | zero => exact Int.le_refl _
  | succ d ih =>
    rw [← Nat.add_assoc, jBB_s]
    have := ih (Nat.le_add_right ..)
    have := jBB_pos (i + d)
    omega
theorem e_mulmod (a : Int) {P B : Int} (hP : 0 < P) (hB : 0 < B) : a % (P * B) = a % P + P * (a / P % B) := by
  have h1 := Int.emod_add_mul_ediv a P
  have h2 := Int.emod_add_mul_ediv (a / P) B
  have h3 := Int.emod_nonneg a (Int.ne_of_gt hP)
  have h4 := Int.emod_lt_of_pos a hP
  have h5 := Int.emod_nonneg (a / P) (Int.ne_of_gt hB)
  have h6 := Int.emod_lt_of_pos (a / P) hB
  have hPB : 0 < P * B := Int.mul_pos hP hB
  have e : a = (a % P + P * (a / P % B)) + (P * B) * (a / P / B) := by
    have : P * (a / P) = P * (a / P % B) + P * B * (a / P / B) := by
      rw [Int.mul_assoc, ← Int.mul_add, h2]
    omega
  have hb : a % P + P * (a / P % B) < P * B := by
    have : P * (a / P % B + 1) ≤ P * B := Int.mul_le_mul_of_nonneg_left (by omega) (Int.le_of_lt hP)
    rw [Int.mul_add, Int.mul_one] at this
    omega
  have hn : 0 ≤ P * (a / P % B) := Int.mul_nonneg (Int.le_of_lt hP) h5
  conv => lhs; rw [e]
  rw [Int.add_mul_emod_self_left, Int.emod_eq_of_lt (by omega) hb]
theorem e_divmod (a : Int) {P B : Int} (hP : 0 < P) (hB : 0 < B) : a % (P * B) / P = a / P % B := by
  have h3 := Int.emod_nonneg a (Int.ne_of_gt hP)
  have h4 := Int.emod_lt_of_pos a hP
  rw [e_mulmod a hP hB, Int.add_mul_ediv_left _ _ (Int.ne_of_gt hP), Int.ediv_eq_zero_of_lt h3 h4, Int.zero_add]
/-- digit i -/
def jDg (x : Int) (i : Nat) : Nat := (x / jBB i % 2 ^ 30).toNat
theorem jDg_c (x : Int) (i : Nat) : ((jDg x i : Nat) : Int) = x / jBB i % 2 ^ 30 := Int.toNat_of_nonneg (Int.emod_nonneg _ (by decide))
theorem jDg_lt (x : Int) (i : Nat) : jDg x i < 1073741824 := by
  have h1 := jDg_c x i
  have h2 := Int.emod_lt_of_pos (x / jBB i) (show (0 : Int) < 2 ^ 30 by decide)
  have : ((jDg x i : Nat) : Int) < 1073741824 := by rw [h1]; exact h2
  omega
theorem jDg_low (x : Int) (i : Nat) : x % jBB (i + 1) = x % jBB i + (jDg x i : Nat) * jBB i := by
  rw [jBB_s, e_mulmod x (jBB_pos i) (by decide), jDg_c, Int.mul_comm]
theorem jDg_high (x : Int) (i : Nat) : x / jBB i = (x / jBB (i + 1)) * 2 ^ 30 + (jDg x i : Nat) := by
  rw [jDg_c, jBB_s, ← Int.ediv_ediv_of_nonneg (Int.le_of_lt (jBB_pos i))]
  have := Int.emod_add_mul_ediv (x / jBB i) (2 ^ 30)
  omega
theorem jDg_mod {r s : Int} {i : Nat} (h : r % jBB (i + 1) = s % jBB (i + 1)) : jDg r i = jDg s i := by
  unfold jDg
  rw [← e_divmod r (jBB_pos i) (by decide), ← e_divmod s (jBB_pos i) (by decide), ← jBB_s, h]
/-- a sum is made limb by limb, with a carry -/
theorem jCarry {s s' e r : Int} {i : Nat} (hs : s' = s + e * jBB i) (hr : r % jBB (i + 1) = s' % jBB (i + 1)) : s' / jBB (i + 1) = (s / jBB i + e) / 2 ^ 30 ∧ jDg r i = ((s / jBB i + e) % 2 ^ 30).toNat := by
  have h1 : s' / jBB i = s / jBB i + e := by rw [hs, Int.add_mul_ediv_right _ _ (jBB_nz i)]
  constructor
  · rw [jBB_s, ← Int.ediv_ediv_of_nonneg (Int.le_of_lt (jBB_pos i)), h1]
  · rw [jDg_mod hr]
    unfold jDg
    rw [h1]
theorem jDg_0 {n : Int} (h0 : 0 ≤ n) (h1 : n < 2 ^ 30) : jDg n 0 = n.toNat := by
  unfold jDg
  rw [jBB_0, Int.ediv_one, Int.emod_eq_of_lt h0 h1]
theorem jBB_ge (i : Nat) : 2 ^ 30 ≤ jBB (i + 1) := by
  have h := jBB_le (show 1 ≤ i + 1 by omega)
  have : jBB 1 = 2 ^ 30 := by rw [jBB_s, jBB_0, Int.one_mul]
  omega
theorem jDg_hi {n : Int} {i : Nat} (h0 : 0 ≤ n) (h1 : n < jBB i) : jDg n i = 0 := by
  unfold jDg
  rw [Int.ediv_eq_zero_of_lt h0 h1]
  rfl
theorem jDg_s {n : Int} {i : Nat} (h0 : 0 ≤ n) (h1 : n < 2 ^ 30) : jDg n (i + 1) = 0 := jDg_hi h0 (Int.lt_of_lt_of_le h1 (jBB_ge i))
/-- the digits make the number -/
theorem jDg_ext {x y : Int} : ∀ n, (∀ i, i < n → jDg x i = jDg y i) → x % jBB n = y % jBB n
  | 0, _ => by rw [jBB_0, Int.emod_one, Int.emod_one]
  | n + 1, h => by rw [jDg_low, jDg_low, jDg_ext n (fun i hi => h i (by omega)), h n (by omega)]
/-- a Whole: object o, its limbs in row o + 1 -/
def wSh (R : Nat → Nat → Option Nat) (o : Nat) : Prop := (∀ I L, aSh (sh0, I, L, R) o = some (10 + 9, 0)) ∧ (∀ I L, aSh (sh0, I, L, R) (o + 1) = some (0, 12)) ∧ (∀ I L, aVal (sh0, I, L, R) (aT 9 0) o 0 = .ref (o + 1)) ∧ o % 2 = 1 ∧ 28 < o ∧ o < 158
def wD (I : Nat → Nat → Int32) (o : Nat) (x : Int) : Prop := ∀ i, i < 12 → I (o + 1) i = nI (jDg x i)
def wR (I : Nat → Nat → Int32) (o : Nat) (x : Int) (ng : Bool) : Prop := wD I o x ∧ I o 1 = bI ng
/-- only row q changes -/
def rK (q : Nat) (I I' : Nat → Nat → Int32) : Prop := ∀ a j, a ≠ q → I' a j = I a j
def oK (o : Nat) (I I' : Nat → Nat → Int32) : Prop := ∀ a j, a ≠ o → a ≠ o + 1 → I' a j = I a j
theorem wD_rK {I I' : Nat → Nat → Int32} {o q : Nat} {x : Int} (h : rK q I I') (ho : o + 1 ≠ q) (hx : wD I o x) : wD I' o x := fun i hi => (h _ i ho).trans (hx i hi)
theorem wR_oK {I I' : Nat → Nat → Int32} {o q : Nat} {x : Int} {ng : Bool} {R : Nat → Nat → Option Nat} (h : oK q I I') (h1 : wSh R o) (h2 : wSh R q) (ho : o ≠ q) (hx : wR I o x ng) : wR I' o x ng :=
  ⟨fun i hi => (h _ i (by have := h1.2.2.2.1; have := h2.2.2.2.1; omega) (by omega)).trans (hx.1 i hi), (h o 1 ho (by have := h1.2.2.2.1; have := h2.2.2.2.1; omega)).trans hx.2⟩
theorem rK_oK {o : Nat} {I I' : Nat → Nat → Int32} (h : rK (o + 1) I I') : oK o I I' := fun a j _ h2 => h a j h2
theorem oK_trans {o : Nat} {I I1 I2 : Nat → Nat → Int32} (h : oK o I I1) (k : oK o I1 I2) : oK o I I2 := fun a j h1 h2 => (k a j h1 h2).trans (h a j h1 h2)
theorem oK_set {o j : Nat} {v : Int32} {I I1 : Nat → Nat → Int32} (h : oK o I I1) : oK o I (aU I1 o j v) := fun a i h1 h2 => by rw [aU_n (by omega)]; exact h a i h1 h2
theorem w29 {R : Nat → Nat → Option Nat} (hR : aRf R) : wSh R 29 := ⟨fun _ _ => rfl, fun _ _ => rfl, fun _ _ => f29_0 hR, by decide, by decide, by decide⟩
theorem w31 {R : Nat → Nat → Option Nat} (hR : aRf R) : wSh R 31 := ⟨fun _ _ => rfl, fun _ _ => rfl, fun _ _ => f31_0 hR, by decide, by decide, by decide⟩
theorem w33 {R : Nat → Nat → Option Nat} (hR : aRf R) : wSh R 33 := ⟨fun _ _ => rfl, fun _ _ => rfl, fun _ _ => f33_0 hR, by decide, by decide, by decide⟩
theorem w35 {R : Nat → Nat → Option Nat} (hR : aRf R) : wSh R 35 := ⟨fun _ _ => rfl, fun _ _ => rfl, fun _ _ => f35_0 hR, by decide, by decide, by decide⟩
theorem w115 {R : Nat → Nat → Option Nat} (hR : aRf R) : wSh R 115 := ⟨fun _ _ => rfl, fun _ _ => rfl, fun _ _ => f115_0 hR, by decide, by decide, by decide⟩
theorem w117 {R : Nat → Nat → Option Nat} (hR : aRf R) : wSh R 117 := ⟨fun _ _ => rfl, fun _ _ => rfl, fun _ _ => f117_0 hR, by decide, by decide, by decide⟩
theorem w119 {R : Nat → Nat → Option Nat} (hR : aRf R) : wSh R 119 := ⟨fun _ _ => rfl, fun _ _ => rfl, fun _ _ => f119_0 hR, by decide, by decide, by decide⟩
theorem w121 {R : Nat → Nat → Option Nat} (hR : aRf R) : wSh R 121 := ⟨fun _ _ => rfl, fun _ _ => rfl, fun _ _ => f121_0 hR, by decide, by decide, by decide⟩
theorem w123 {R : Nat → Nat → Option Nat} (hR : aRf R) : wSh R 123 := ⟨fun _ _ => rfl, fun _ _ => rfl, fun _ _ => f123_0 hR, by decide, by decide, by decide⟩
theorem w125 {R : Nat → Nat → Option Nat} (hR : aRf R) : wSh R 125 := ⟨fun _ _ => rfl, fun _ _ => rfl, fun _ _ => f125_0 hR, by decide, by decide, by decide⟩
theorem w127 {R : Nat → Nat → Option Nat} (hR : aRf R) : wSh R 127 := ⟨fun _ _ => rfl, fun _ _ => rfl, fun _ _ => f127_0 hR, by decide, by decide, by decide⟩
theorem w129 {R : Nat → Nat → Option Nat} (hR : aRf R) : wSh R 129 := ⟨fun _ _ => rfl, fun _ _ => rfl, fun _ _ => f129_0 hR, by decide, by decide, by decide⟩
theorem w131 {R : Nat → Nat → Option Nat} (hR : aRf R) : wSh R 131 := ⟨fun _ _ => rfl, fun _ _ => rfl, fun _ _ => f131_0 hR, by decide, by decide, by decide⟩
theorem w133 {R : Nat → Nat → Option Nat} (hR : aRf R) : wSh R 133 := ⟨fun _ _ => rfl, fun _ _ => rfl, fun _ _ => f133_0 hR, by decide, by decide, by decide⟩
theorem w135 {R : Nat → Nat → Option Nat} (hR : aRf R) : wSh R 135 := ⟨fun _ _ => rfl, fun _ _ => rfl, fun _ _ => f135_0 hR, by decide, by decide, by decide⟩
theorem w137 {R : Nat → Nat → Option Nat} (hR : aRf R) : wSh R 137 := ⟨fun _ _ => rfl, fun _ _ => rfl, fun _ _ => f137_0 hR, by decide, by decide, by decide⟩
theorem w139 {R : Nat → Nat → Option Nat} (hR : aRf R) : wSh R 139 := ⟨fun _ _ => rfl, fun _ _ => rfl, fun _ _ => f139_0 hR, by decide, by decide, by decide⟩
theorem w141 {R : Nat → Nat → Option Nat} (hR : aRf R) : wSh R 141 := ⟨fun _ _ => rfl, fun _ _ => rfl, fun _ _ => f141_0 hR, by decide, by decide, by decide⟩
theorem w143 {R : Nat → Nat → Option Nat} (hR : aRf R) : wSh R 143 := ⟨fun _ _ => rfl, fun _ _ => rfl, fun _ _ => f143_0 hR, by decide, by decide, by decide⟩
theorem w145 {R : Nat → Nat → Option Nat} (hR : aRf R) : wSh R 145 := ⟨fun _ _ => rfl, fun _ _ => rfl, fun _ _ => f145_0 hR, by decide, by decide, by decide⟩
theorem w147 {R : Nat → Nat → Option Nat} (hR : aRf R) : wSh R 147 := ⟨fun _ _ => rfl, fun _ _ => rfl, fun _ _ => f147_0 hR, by decide, by decide, by decide⟩
theorem w149 {R : Nat → Nat → Option Nat} (hR : aRf R) : wSh R 149 := ⟨fun _ _ => rfl, fun _ _ => rfl, fun _ _ => f149_0 hR, by decide, by decide, by decide⟩
theorem w151 {R : Nat → Nat → Option Nat} (hR : aRf R) : wSh R 151 := ⟨fun _ _ => rfl, fun _ _ => rfl, fun _ _ => f151_0 hR, by decide, by decide, by decide⟩
theorem w153 {R : Nat → Nat → Option Nat} (hR : aRf R) : wSh R 153 := ⟨fun _ _ => rfl, fun _ _ => rfl, fun _ _ => f153_0 hR, by decide, by decide, by decide⟩
theorem w155 {R : Nat → Nat → Option Nat} (hR : aRf R) : wSh R 155 := ⟨fun _ _ => rfl, fun _ _ => rfl, fun _ _ => f155_0 hR, by decide, by decide, by decide⟩
theorem w157 {R : Nat → Nat → Option Nat} (hR : aRf R) : wSh R 157 := ⟨fun _ _ => rfl, fun _ _ => rfl, fun _ _ => f157_0 hR, by decide, by decide, by decide⟩
theorem wVal {R : Nat → Nat → Option Nat} (hR : aRf R) : ∀ i, i < 22 → wSh R (115 + 2 * i)
  | 0, _ => w115 hR
  | 1, _ => w117 hR
  | 2, _ => w119 hR
  | 3, _ => w121 hR
  | 4, _ => w123 hR
  | 5, _ => w125 hR
  | 6, _ => w127 hR
  | 7, _ => w129 hR
  | 8, _ => w131 hR
  | 9, _ => w133 hR
  | 10, _ => w135 hR
  | 11, _ => w137 hR
  | 12, _ => w139 hR
  | 13, _ => w141 hR
  | 14, _ => w143 hR
  | 15, _ => w145 hR
  | 16, _ => w147 hR
  | 17, _ => w149 hR
  | 18, _ => w151 hR
  | 19, _ => w153 hR
  | 20, _ => w155 hR
  | 21, _ => w157 hR
  | n + 22, h => absurd h (by omega)
