/-! THE REFERENCE SOLVES: what its equations say -/
def loF (s : jN) (r : jR) (w : jW) (a : Nat) : Bool := decide (w 4 = 0) && decide (jLa (jGath s r (jChs s r w) w (jS s).length).1 (jVn s) a = a)
theorem jCnt_eq {f g : Nat → Bool} : ∀ n, (∀ i, i < n → f i = g i) → jCnt f n = jCnt g n
  | 0, _ => rfl
  | n + 1, h => by
    show (if f n then jCnt f n + 1 else jCnt f n) = (if g n then jCnt g n + 1 else jCnt g n)
    rw [h n (by omega), jCnt_eq n (fun i hi => h i (by omega))]
theorem lo_cnt (s : jN) (r : jR) (w : jW) : jCnt (loF s r w) (jVn s) = jLo s r (jChs s r w) w := by
  unfold jLo
  by_cases e : w 4 = 0
  · rw [if_pos e]
    unfold jLoose
    exact jCnt_eq _ (fun i _ => by unfold loF; rw [decide_eq_true e, Bool.true_and])
  · rw [if_neg e]
    have h : ∀ n, jCnt (loF s r w) n = 0 := fun n => by
      induction n with
      | zero => rfl
      | succ n ih =>
        show (if loF s r w n then _ else _) = 0
        rw [if_neg (by unfold loF; simp [e])]; exact ih
    exact h _
theorem lo_Ls {s : jN} {r : jR} (hr : rOk r) (hg : rGood r) {w : jW} (hw : wOk w) (h4 : w 4 = 0) {a : Nat} (ha : a < jVn s) : loF s r w a = true ↔ Ls (jT s r (jChs s r w) w) (jVn s) a := by
  unfold loF
  rw [decide_eq_true h4, Bool.true_and, decide_eq_true_eq, gath_A, h4]
  exact jLa_Ls (jT_in hr hg hw) ha
theorem lo_no {s : jN} {r : jR} {w : jW} (h4 : w 4 ≠ 0) (a : Nat) : loF s r w a = false := by unfold loF; rw [decide_eq_false h4]; rfl
theorem hOk_iff {T : List Tm} {f : Nat → Nat} (h : hOk T f) (i j : Nat) : f i = f j ↔ Cn T i j := by
  refine ⟨h.2 i j, fun hc => ?_⟩
  have := hc (fun k => ((f k : Nat) : Int)) (fun τ ht hw => by rw [h.1 τ ht hw])
  have e : ((f i : Nat) : Int) = (f j : Nat) := this
  omega
/-- which ones are last, by the labels -/
theorem lo_lab {s : jN} {r : jR} (hr : rOk r) (hg : rGood r) {w : jW} (hw : wOk w) (h4 : w 4 = 0) {f : Nat → Nat} (hf : hOk (rT1 s r (jChs s r w) w (jS s).length) f) {a : Nat} (ha : a < jVn s) : loF s r w a = true ↔ ∀ j, a < j → j < jVn s → f j ≠ f a := by
  rw [lo_Ls hr hg hw h4 ha]
  constructor
  · intro h j h1 h2 e
    exact h.2 j h1 h2 ((rT_Cn hr hg a j).mp ((hOk_iff hf a j).mp e.symm))
  · intro h
    exact ⟨ha, fun j h1 h2 hc => h j h1 h2 ((hOk_iff hf a j).mpr ((rT_Cn hr hg a j).mpr hc)).symm⟩
theorem jEs_ex {s : jN} {x : Nat} : ∀ n, x ∈ jEs s n → ∃ k m, k < n ∧ m ∈ jMem s (jB s k) ∧ x = jV s k m
  | 0, h => by cases h
  | n + 1, h => by
    rcases List.mem_append.mp h with g | g
    · obtain ⟨k, m, a, b, c⟩ := jEs_ex n g; exact ⟨k, m, by omega, b, c⟩
    · obtain ⟨m, hm, rfl⟩ := List.mem_map.mp g
      exact ⟨n, m, by omega, hm, rfl⟩
theorem eq_in {s : jN} (ho : jOk s) {x : Nat} (hx : x < jVn s) : 0 ≤ eqOf s x ∧ eqOf s x ≤ 1270000 := by
  obtain ⟨k, m, hk, hm, rfl⟩ := jEs_ex _ (jEs_all hx)
  rw [eqOf_V hk hm]
  have := (ho.2 m (jML_mem.mp hm).1).1
  omega
theorem ls_leB {α : Type} {f : α → Int} {B : Int} : ∀ {l : List α}, (∀ a, a ∈ l → 0 ≤ f a ∧ f a ≤ B) → 0 ≤ ls f l ∧ ls f l ≤ B * (l.length : Int)
  | [], _ => ⟨Int.le_refl _, by show (0 : Int) ≤ B * 0; omega⟩
  | a :: l, h => by
    have ih := ls_leB (l := l) (fun b hb => h b (List.mem_cons_of_mem _ hb))
    have h1 := h a (List.mem_cons_self ..)
    show 0 ≤ f a + ls f l ∧ f a + ls f l ≤ B * ((l.length + 1 : Nat) : Int)
    rw [Int.natCast_add, Int.mul_add]
    omega
def tU (q : Nat → Int) (τ : Tm) : Tm := (τ.1, τ.2.1, τ.2.2.1, τ.2.2.2 + (q τ.1 - q τ.2.1))
theorem tB_U (T : List Tm) (E : List Nat) (e : Int) (q : Nat → Int) (i : Nat) : tB' T E e q i = tB (T.map (tU q)) i + e * ls (fun x => q x * dl1 x i) E := by
  unfold tB' tB
  rw [ls_map]; rfl
theorem tC_U (T : List Tm) (E : List Nat) (e : Int) (q : Nat → Int) : tC' T E e q = tC (T.map (tU q)) + e * ls (fun x => q x * q x) E := by
  unfold tC' tC
  rw [ls_map]; rfl
theorem U_in {s : jN} (ho : jOk s) {r : jR} (hr : rOk r) (hg : rGood r) {ch : Nat → Nat} {w : jW} (hw : wOk w) : tIn (jVn s) ((jT s r ch w).map (tU (eqOf s))) (jE s) ∧ ∀ τ, τ ∈ (jT s r ch w).map (tU (eqOf s)) → τ.2.2.1 ≤ 99 ∧ (τ.2.2.2.natAbs : Int) ≤ 3010160 := by
  have hT := jTs_in (s := s) hr hg (ch := ch) hw (jS s).length (Nat.le_refl _)
  have key : ∀ τ, τ ∈ (jT s r ch w).map (tU (eqOf s)) → (τ.1 < jVn s ∧ τ.2.1 < jVn s ∧ 0 ≤ τ.2.2.1) ∧ τ.2.2.1 ≤ 99 ∧ (τ.2.2.2.natAbs : Int) ≤ 3010160 := by
    intro τ ht
    obtain ⟨σ, hs, rfl⟩ := List.mem_map.mp ht
    obtain ⟨h1, h2, h3⟩ := hT σ hs
    have e1 := eq_in ho h1.1
    have e2 := eq_in ho h1.2.1
    refine ⟨h1, h2, ?_⟩
    show ((σ.2.2.2 + (eqOf s σ.1 - eqOf s σ.2.1)).natAbs : Int) ≤ 3010160
    generalize eqOf s σ.1 = a at *
    generalize eqOf s σ.2.1 = b at *
    omega
  exact ⟨⟨fun τ ht => (key τ ht).1, (jT_in (ch := ch) hr hg hw).2⟩, fun τ ht => (key τ ht).2⟩
theorem ref_bd {s : jN} (ho : jOk s) (h6 : jSix s) {r : jR} (hr : rOk r) (hg : rGood r) {ch : Nat → Nat} {w : jW} (hw : wOk w) {S : jQt} (h1 : ∀ i j, S.1 i j = tA (jT s r ch w) (jE s) (w 4 : Int) i j) (h2 : ∀ i, S.2.1 i = tB' (jT s r ch w) (jE s) (w 4 : Int) (eqOf s) i) (h3 : S.2.2 = tC' (jT s r ch w) (jE s) (w 4 : Int) (eqOf s)) : sBd S (jVn s) := by
  obtain ⟨u1, u2⟩ := U_in ho hr hg (ch := ch) hw
  have hl : (((jT s r ch w).map (tU (eqOf s))).length : Int) ≤ 651 := by rw [List.length_map]; have := z_len h6 r ch w; omega
  have hE : ((jE s).length : Int) ≤ 186 := by
    have h : (jE s).length ≤ 6 * (jS s).length := jEs_len h6 (jS s).length
    have := jS_len s
    omega
  have hw4 := hw.2 4 (by decide) (by decide)
  have hb := b_le u1 (w := 99) (m := 3010160) u2 (by decide)
  have hc := c_le u1 (w := 99) (m := 3010160) u2 (by decide)
  refine ⟨fun i j hi hj => ?_, fun i hi => ?_, ?_⟩
  · rw [h1, ← gath_A]; exact gath_bd h6 hr hg hw i j hi hj
  · rw [h2, tB_U]
    have hs := abs_in_sum hb hi
    have he := ls_leB (f := fun x => eqOf s x * dl1 x i) (B := 1270000) (l := jE s) (fun x hx => by
      have e := eq_in ho (jEs_in (jS s).length (Nat.le_refl _) x hx)
      have d : dl1 x i = 0 ∨ dl1 x i = 1 := by unfold dl1; split <;> simp
      rcases d with d | d
      · show 0 ≤ eqOf s x * dl1 x i ∧ eqOf s x * dl1 x i ≤ _
        rw [d]; omega
      · show 0 ≤ eqOf s x * dl1 x i ∧ eqOf s x * dl1 x i ≤ _
        rw [d]; omega)
    generalize tB ((jT s r ch w).map (tU (eqOf s))) i = B9 at *
    generalize ls (fun x => eqOf s x * dl1 x i) (jE s) = E9 at *
    have he2 : (w 4 : Int) * E9 ≤ 99 * (1270000 * 186) := Int.mul_le_mul (by omega) (by omega) he.1 (by decide)
    have he3 : 0 ≤ (w 4 : Int) * E9 := Int.mul_nonneg (by omega) he.1
    generalize (((jT s r ch w).map (tU (eqOf s))).length : Int) = ln at *
    omega
  · rw [h3, tC_U]
    have he := ls_leB (f := fun x => eqOf s x * eqOf s x) (B := 1270000 * 1270000) (l := jE s) (fun x hx => by
      have e := eq_in ho (jEs_in (jS s).length (Nat.le_refl _) x hx)
      exact ⟨sq_nn _, Int.mul_le_mul e.2 e.2 e.1 (by decide)⟩)
    generalize tC ((jT s r ch w).map (tU (eqOf s))) = C9 at *
    generalize ls (fun x => eqOf s x * eqOf s x) (jE s) = E9 at *
    have he2 : (w 4 : Int) * E9 ≤ 99 * (1270000 * 1270000 * 186) := Int.mul_le_mul (by omega) (by omega) he.1 (by decide)
    have he3 : 0 ≤ (w 4 : Int) * E9 := Int.mul_nonneg (by omega) he.1
    generalize (((jT s r ch w).map (tU (eqOf s))).length : Int) = ln at *
    omega
noncomputable def yX (s : jN) (r : jR) (w : jW) (i : Nat) : Int := if i < jVn s then yP s r w i else - zD s r (jChs s r w) w
theorem yX_lt {s : jN} {r : jR} {w : jW} {i : Nat} (h : i < jVn s) : yX s r w i = zN s r (jChs s r w) w i + zD s r (jChs s r w) w * eqOf s i := by
  unfold yX yP; rw [if_pos h, if_pos h]
theorem yX_n (s : jN) (r : jR) (w : jW) : yX s r w (jVn s) = - zD s r (jChs s r w) w := if_neg (Nat.lt_irrefl _)
theorem ref_A {s : jN} {r : jR} (hr : rOk r) (hg : rGood r) {w : jW} (hw : wOk w) {S : jQt} (h1 : ∀ i j, S.1 i j = tA (jT s r (jChs s r w) w) (jE s) (w 4 : Int) i j) {i : Nat} (hi : i < jVn s) (j : Nat) : lsA S (loF s r w) i j = if w 4 = 0 then hM (jT s r (jChs s r w) w) (jVn s) (tA (jT s r (jChs s r w) w) (jE s) 0) i j else tA (jT s r (jChs s r w) w) (jE s) (w 4 : Int) i j := by
  unfold lsA
  by_cases h4 : w 4 = 0
  · rw [if_pos h4]
    unfold hM
    by_cases e : loF s r w i = true
    · rw [if_pos e, if_pos ((lo_Ls hr hg hw h4 hi).mp e)]; rfl
    · rw [if_neg e, if_neg (fun z => e ((lo_Ls hr hg hw h4 hi).mpr z)), h1, h4]; rfl
  · rw [if_neg h4, if_neg (by rw [lo_no h4]; simp), h1]
theorem ref_B {s : jN} {r : jR} (hr : rOk r) (hg : rGood r) {w : jW} (hw : wOk w) {S : jQt} (h2 : ∀ i, S.2.1 i = tB' (jT s r (jChs s r w) w) (jE s) (w 4 : Int) (eqOf s) i) {i : Nat} (hi : i < jVn s) : lsB S (loF s r w) (eqN s) i = if w 4 = 0 then (@ite Int (Ls (jT s r (jChs s r w) w) (jVn s) i) (Classical.propDecidable _) (eqOf s i) (tB' (jT s r (jChs s r w) w) (jE s) 0 (eqOf s) i)) else tB' (jT s r (jChs s r w) w) (jE s) (w 4 : Int) (eqOf s) i := by
  unfold lsB
  by_cases h4 : w 4 = 0
  · rw [if_pos h4]
    by_cases e : loF s r w i = true
    · rw [if_pos e, if_pos ((lo_Ls hr hg hw h4 hi).mp e)]; rfl
    · rw [if_neg e, if_neg (fun z => e ((lo_Ls hr hg hw h4 hi).mpr z)), h2, h4]; rfl
  · rw [if_neg h4, if_neg (by rw [lo_no h4]; simp), h2]
theorem ref_D {s : jN} {r : jR} (hr : rOk r) (hg : rGood r) {w : jW} (hw : wOk w) {S : jQt} (h1 : ∀ i j, S.1 i j = tA (jT s r (jChs s r w) w) (jE s) (w 4 : Int) i j) : dt (jVn s) (lsA S (loF s r w)) = zD s r (jChs s r w) w := by
  unfold zD zA
  by_cases h4 : w 4 = 0
  · rw [if_pos h4, ← dt_hM]
    exact dt_ext _ (fun i j hi _ => by rw [ref_A hr hg hw h1 hi, if_pos h4])
  · rw [if_neg h4]
    exact dt_ext _ (fun i j hi _ => by rw [ref_A hr hg hw h1 hi, if_neg h4])
theorem ref_X {s : jN} {r : jR} (hr : rOk r) (hg : rGood r) {w : jW} (hw : wOk w) {S : jQt} (h1 : ∀ i j, S.1 i j = tA (jT s r (jChs s r w) w) (jE s) (w 4 : Int) i j) (h2 : ∀ i, S.2.1 i = tB' (jT s r (jChs s r w) w) (jE s) (w 4 : Int) (eqOf s) i) {i : Nat} (hi : i < jVn s) : sm (jVn s) (fun j => lsA S (loF s r w) i j * yX s r w j) + lsB S (loF s r w) (eqN s) i * yX s r w (jVn s) = 0 := by
  rw [yX_n, ref_B hr hg hw h2 hi]
  have hall : ∀ i, i < jVn s → mv (jVn s) (tA (jT s r (jChs s r w) w) (jE s) (w 4 : Int)) (zN s r (jChs s r w) w) i = zD s r (jChs s r w) w * tB (jT s r (jChs s r w) w) i := fun i hi => zN_all hr hg hw hi
  by_cases h4 : w 4 = 0
  · rw [if_pos h4]
    have e : sm (jVn s) (fun j => lsA S (loF s r w) i j * yX s r w j) = sm (jVn s) (fun j => hM (jT s r (jChs s r w) w) (jVn s) (tA (jT s r (jChs s r w) w) (jE s) 0) i j * (zN s r (jChs s r w) w j + zD s r (jChs s r w) w * eqOf s j)) := sm_ext (fun j hj => by rw [ref_A hr hg hw h1 hi, if_pos h4, yX_lt hj])
    rw [e]
    have h40 : (w 4 : Int) = 0 := by omega
    rw [h40] at hall
    exact places_ker (jT_in hr hg hw) hall (fun l hl => zN_held hr hg hw h4 hl) hi
  · rw [if_neg h4]
    have e : sm (jVn s) (fun j => lsA S (loF s r w) i j * yX s r w j) = sm (jVn s) (fun j => tA (jT s r (jChs s r w) w) (jE s) (w 4 : Int) i j * (zN s r (jChs s r w) w j + zD s r (jChs s r w) w * eqOf s j)) := sm_ext (fun j hj => by rw [ref_A hr hg hw h1 hi, if_neg h4, yX_lt hj])
    rw [e]
    exact places_ker' (jT_in hr hg hw) hall hi
theorem ref_W {s : jN} {r : jR} (hr : rOk r) (hg : rGood r) {w : jW} (hw : wOk w) {S : jQt} (h2 : ∀ i, S.2.1 i = tB' (jT s r (jChs s r w) w) (jE s) (w 4 : Int) (eqOf s) i) (h3 : S.2.2 = tC' (jT s r (jChs s r w) w) (jE s) (w 4 : Int) (eqOf s)) : S.2.2 * zD s r (jChs s r w) w - sm (jVn s) (fun i => S.2.1 i * yX s r w i) = zW s r (jChs s r w) w := by
  rw [zW_eq hr hg hw, ← W_places (jT_in hr hg hw) (q := eqOf s) (fun i hi => zN_all hr hg hw hi), h3]
  congr 1
  exact sm_ext (fun i hi => by rw [h2, yX_lt hi])
theorem ref_Y {s : jN} {r : jR} (hr : rOk r) (hg : rGood r) {w : jW} (hw : wOk w) (hn : jVn s ≤ 20) {S : jQt} (h1 : ∀ i j, S.1 i j = tA (jT s r (jChs s r w) w) (jE s) (w 4 : Int) i j) (h2 : ∀ i, S.2.1 i = tB' (jT s r (jChs s r w) w) (jE s) (w 4 : Int) (eqOf s) i) (h3 : S.2.2 = tC' (jT s r (jChs s r w) w) (jE s) (w 4 : Int) (eqOf s)) {a : Nat} (ha : a < jVn s ∨ a = 20 ∨ a = 21) : yU (jVn s) (yX s r w) (dt (jVn s) (lsA S (loF s r w))) (S.2.2 * dt (jVn s) (lsA S (loF s r w)) - sm (jVn s) (fun i => S.2.1 i * yX s r w i)) a = yP s r w a := by
  rw [ref_D hr hg hw h1, ref_W hr hg hw h2 h3]
  unfold yU
  by_cases e : a < jVn s
  · rw [if_pos e]; unfold yX; rw [if_pos e]
  · rw [if_neg e]
    unfold yP zV
    rw [if_neg e, if_neg e]
theorem few_badR {n : Nat} {b : Nat → Nat} {D : Int} (hD0 : 0 < D) (hD : D < 2 ^ 264) (hb : ∀ j, j < n → (isP (b j) ∧ 1073741824 < b j) ∧ cg (b j) D 0) (hd : ∀ j k, j < n → k < n → b j = b k → j = k) : n < 9 := by
  refine Nat.lt_of_not_le (fun h9 => ?_)
  have h1 := prn_le_of_dvd (m := b) (n := 9) (z := D.toNat) (fun i hi => (hb i (by omega)).1.1) (fun i j hi hj e => hd i j (by omega) (by omega) e) (by omega) (fun i hi => by
    have := cg_zero.mp (hb i (by omega)).2
    have h2 := Int.ofNat_dvd_left.mp this
    rwa [show D.natAbs = D.toNat by omega] at h2)
  have h2 := prn_ge (m := b) (n := 9) (b := 1073741398) (fun i hi => by have := (hb i (by omega)).1.2; omega)
  have h3 : (2 : Nat) ^ 264 ≤ 1073741398 ^ 9 := by decide +kernel
  have h4 : D < ((2 ^ 264 : Nat) : Int) := by rw [Int.natCast_pow]; exact hD
  have h5 : 2 ^ 264 ≤ D.toNat := Nat.le_trans h3 (Nat.le_trans h2 h1)
  omega
def prP (L : Nat → Nat → Int64) (pc : Nat) (P : Nat → Nat) : Prop := (∀ k, k < pc → L 187 k = lN (P k) ∧ isP (P k) ∧ P k % 2 = 1 ∧ wit k ≤ P k ∧ P k < 2147483648) ∧ ∀ k, k + 1 < pc → P (k + 1) < P k
theorem prP_lt {L : Nat → Nat → Int64} {pc : Nat} {P : Nat → Nat} (h : prP L pc P) : ∀ {a b : Nat}, a < b → b < pc → P b < P a := by
  intro a b hab
  obtain ⟨d, rfl⟩ : ∃ d, b = a + 1 + d := ⟨b - a - 1, by omega⟩
  induction d with
  | zero => intro hb; exact h.2 a hb
  | succ d ih =>
    intro hb
    have h1 := ih (by omega) (by omega)
    have h2 := h.2 (a + 1 + d) (by omega)
    have : a + 1 + (d + 1) = a + 1 + d + 1 := by omega
    rw [this]; omega
theorem prP_big {L : Nat → Nat → Int64} {pc : Nat} {P : Nat → Nat} (h : prP L pc P) (hpc : pc ≤ 22) {a : Nat} (ha : a < pc) : isP (P a) ∧ 1073741824 < P a ∧ P a < 2147483648 := by
  have h1 := h.1 a ha
  have h2 := wit_in a (by omega)
  exact ⟨h1.2.1, by omega, h1.2.2.2.2⟩
theorem prP_inj {L : Nat → Nat → Int64} {pc : Nat} {P : Nat → Nat} (h : prP L pc P) {a b : Nat} (ha : a < pc) (hb : b < pc) (e : P a = P b) : a = b := by
  rcases Nat.lt_trichotomy a b with g | g | g
  · have := prP_lt h g hb; omega
  · exact g
  · have := prP_lt h g ha; omega
theorem prP_push {L L' : Nat → Nat → Int64} {pc : Nat} {P : Nat → Nat} (h : prP L pc P) {q : Nat} (h1 : isP q) (h2 : q % 2 = 1) (h3 : wit pc ≤ q) (h4 : q < 2147483648) (h5 : 0 < pc → q < P (pc - 1)) (hL : ∀ k, k < pc → L' 187 k = L 187 k) (hq : L' 187 pc = lN q) : prP L' (pc + 1) (va_up P pc q) := by
  refine ⟨fun k hk => ?_, fun k hk => ?_⟩
  · by_cases e : k = pc
    · rw [e, show va_up P pc q pc = q by simp [va_up]]; exact ⟨hq, h1, h2, h3, h4⟩
    · rw [show va_up P pc q k = P k by simp [va_up, e], hL k (by omega)]; exact h.1 k (by omega)
  · rw [show va_up P pc q k = P k by simp [va_up, show ¬ k = pc by omega]]
    by_cases e : k + 1 = pc
    · rw [e, show va_up P pc q pc = q by simp [va_up]]
      have := h5 (by omega)
      rw [← e, Nat.add_sub_cancel] at this; exact this
    · rw [show va_up P pc q (k + 1) = P (k + 1) by simp [va_up, e]]; exact h.2 k (by omega)
/-- k primes were tried: g of them good, the others bad -/
def rgOk (L : Nat → Nat → Int64) (n k g : Nat) (P m b : Nat → Nat) (Yf : Nat → Int) (D : Int) : Prop := g ≤ k ∧ g ≤ 14 ∧ (∀ j, j < g → L 188 j = lN (m j) ∧ ∃ a, a < k ∧ m j = P a) ∧ (∀ i j, i < g → j < g → m i = m j → i = j) ∧ (∀ j, j < g → ∀ a, (a < n ∨ a = 20 ∨ a = 21) → ∃ v : Nat, L 189 (22 * j + a) = lN v ∧ v < m j ∧ cg (m j) (v : Int) (Yf a)) ∧ (∀ j, j < k - g → (∃ a, a < k ∧ b j = P a) ∧ cg (b j) D 0) ∧ (∀ i j, i < k - g → j < k - g → b i = b j → i = j)
theorem rg_few {L L' : Nat → Nat → Int64} {n k g pc : Nat} {P m b : Nat → Nat} {Yf : Nat → Int} {D : Int} (h : rgOk L n k g P m b Yf D) (hP : prP L' pc P) (hpc : pc ≤ 22) (hk : k ≤ pc) (hD0 : 0 < D) (hD : D < 2 ^ 264) : k < g + 9 := by
  obtain ⟨h1, h2, h3, h4, h5, h6, h7⟩ := h
  have := few_badR (n := k - g) (b := b) hD0 hD (fun j hj => by
    obtain ⟨⟨a, ha, e⟩, hc⟩ := h6 j hj
    have y := prP_big hP hpc (a := a) (by omega)
    exact ⟨by rw [e]; exact ⟨y.1, y.2.1⟩, hc⟩) h7
  omega
theorem rg_good {L L' L9 : Nat → Nat → Int64} {n k g pc : Nat} {P m b : Nat → Nat} {Yf : Nat → Int} {D : Int} (h : rgOk L n k g P m b Yf D) (hg : g < 14) (hP : prP L9 pc P) (hk : k < pc) (hk1 : ∀ j, j < g → L' 188 j = L 188 j) (hk2 : ∀ j, j < 22 * g → L' 189 j = L 189 j) (hn : n ≤ 20) (e1 : L' 188 g = lN (P k)) (e2 : ∀ a, (a < n ∨ a = 20 ∨ a = 21) → ∃ v : Nat, L' 189 (22 * g + a) = lN v ∧ v < P k ∧ cg (P k) (v : Int) (Yf a)) : rgOk L' n (k + 1) (g + 1) P (va_up m g (P k)) b Yf D := by
  obtain ⟨h1, h2, h3, h4, h5, h6, h7⟩ := h
  have u1 : va_up m g (P k) g = P k := by simp [va_up]
  have u2 : ∀ j, j < g → va_up m g (P k) j = m j := fun j hj => by simp [va_up, show ¬ j = g by omega]
  have hne : ∀ j, j < g → m j ≠ P k := fun j hj e => by
    obtain ⟨a, ha, ea⟩ := (h3 j hj).2
    have := prP_lt hP ha hk
    omega
  refine ⟨by omega, by omega, fun j hj => ?_, fun i j hi hj e => ?_, fun j hj a ha => ?_, fun j hj => ?_, fun i j hi hj => h7 i j (by omega) (by omega)⟩
  · by_cases e : j = g
    · rw [e, u1]; exact ⟨e1, k, by omega, rfl⟩
    · rw [u2 j (by omega), hk1 j (by omega)]
      obtain ⟨a1, a, ha, ea⟩ := h3 j (by omega)
      exact ⟨a1, a, by omega, ea⟩
  · by_cases ei : i = g <;> by_cases ej : j = g
    · omega
    · rw [ei, u1, u2 j (by omega)] at e; exact absurd e.symm (hne j (by omega))
    · rw [ej, u1, u2 i (by omega)] at e; exact absurd e (hne i (by omega))
    · rw [u2 i (by omega), u2 j (by omega)] at e; exact h4 i j (by omega) (by omega) e
  · by_cases e : j = g
    · rw [e, u1]; exact e2 a ha
    · rw [u2 j (by omega), hk2 _ (by omega)]; exact h5 j (by omega) a ha
  · obtain ⟨⟨a, ha, ea⟩, hc⟩ := h6 j (by omega)
    exact ⟨⟨a, by omega, ea⟩, hc⟩
theorem rg_bad {L L' L9 : Nat → Nat → Int64} {n k g pc : Nat} {P m b : Nat → Nat} {Yf : Nat → Int} {D : Int} (h : rgOk L n k g P m b Yf D) (hP : prP L9 pc P) (hk : k < pc) (hk1 : ∀ j, j < g → L' 188 j = L 188 j) (hk2 : ∀ j, j < 22 * g → L' 189 j = L 189 j) (hn : n ≤ 20) (hc : cg (P k) D 0) : rgOk L' n (k + 1) g P m (va_up b (k - g) (P k)) Yf D := by
  obtain ⟨h1, h2, h3, h4, h5, h6, h7⟩ := h
  have u1 : va_up b (k - g) (P k) (k - g) = P k := by simp [va_up]
  have u2 : ∀ j, j < k - g → va_up b (k - g) (P k) j = b j := fun j hj => by simp [va_up, show ¬ j = k - g by omega]
  have hne : ∀ j, j < k - g → b j ≠ P k := fun j hj e => by
    obtain ⟨a, ha, ea⟩ := (h6 j hj).1
    have := prP_lt hP ha hk
    omega
  refine ⟨by omega, h2, fun j hj => ?_, h4, fun j hj a ha => by rw [hk2 _ (by omega)]; exact h5 j hj a ha, fun j hj => ?_, fun i j hi hj e => ?_⟩
  · rw [hk1 j hj]
    obtain ⟨a1, a, ha, ea⟩ := h3 j hj
    exact ⟨a1, a, by omega, ea⟩
  · by_cases e : j = k - g
    · rw [e, u1]; exact ⟨⟨k, by omega, rfl⟩, hc⟩
    · rw [u2 j (by omega)]
      obtain ⟨⟨a, ha, ea⟩, hc⟩ := h6 j (by omega)
      exact ⟨⟨a, by omega, ea⟩, hc⟩
  · by_cases ei : i = k - g <;> by_cases ej : j = k - g
    · omega
    · rw [ei, u1, u2 j (by omega)] at e; exact absurd e.symm (hne j (by omega))
    · rw [ej, u1, u2 i (by omega)] at e; exact absurd e (hne i (by omega))
    · rw [u2 i (by omega), u2 j (by omega)] at e; exact h7 i j (by omega) (by omega) e
theorem rg_ext {L : Nat → Nat → Int64} {n k g pc : Nat} {P m b : Nat → Nat} {Yf : Nat → Int} {D : Int} {L' : Nat → Nat → Int64} {q : Nat} (h : rgOk L n k g P m b Yf D) (hk : k ≤ pc) (e1 : ∀ j, L' 188 j = L 188 j) (e2 : ∀ j, L' 189 j = L 189 j) : rgOk L' n k g (va_up P pc q) m b Yf D := by
  obtain ⟨h1, h2, h3, h4, h5, h6, h7⟩ := h
  have u : ∀ a, a < k → va_up P pc q a = P a := fun a ha => by simp [va_up, show ¬ a = pc by omega]
  refine ⟨h1, h2, fun j hj => ?_, h4, fun j hj a ha => by rw [e2]; exact h5 j hj a ha, fun j hj => ?_, h7⟩
  · obtain ⟨a1, a, ha, ea⟩ := h3 j hj
    exact ⟨(e1 j).trans a1, a, ha, by rw [u a ha]; exact ea⟩
  · obtain ⟨⟨a, ha, ea⟩, hc⟩ := h6 j hj
    exact ⟨⟨a, ha, by rw [u a ha]; exact ea⟩, hc⟩
