/-! READINGS AS WHOLE NUMBERS; COSTS STAY SMALL -/
def jDz (s : jN) (r : jR) (b rd m : Nat) : Int := jSz r (jSl s r b rd m) - 10000 * ((jSt s b m % 12 : Nat) : Int)
theorem jTg_eq (s : jN) (r : jR) (b rd m : Nat) : jTg s r b rd m = iZ (jDz s r b rd m + 10000 * ((jSt s b m : Nat) : Int)) := by
  unfold jTg jDz jSz
  rw [jSize_eq, nZ, iZ_add]
  congr 1
  omega
theorem jDv_eq (s : jN) (r : jR) (b rd m : Nat) : jDv s r b rd m = iZ (jDz s r b rd m) := by
  unfold jDv
  rw [jTg_eq, nZ, iZ_sub]
  congr 1
  omega
theorem jDz_in {s : jN} {r : jR} (hr : rOk r) (hg : rGood r) (b rd m : Nat) : -230080 ≤ jDz s r b rd m ∧ jDz s r b rd m ≤ 240080 := by
  have := jSz_in hr hg (jSl_ok s r b rd m)
  unfold jDz
  omega
theorem jTd_eq {s : jN} {r : jR} (hr : rOk r) (hg : rGood r) (ch : Nat → Nat) (k m x : Nat) : jTd s r ch k m x = jDz s r (jB s k) (ch k) m - jDz s r (jB s k) (ch k) x := by
  have h1 := jDz_in (s := s) hr hg (jB s k) (ch k) m
  have h2 := jDz_in (s := s) hr hg (jB s k) (ch k) x
  unfold jTd
  rw [jDv_eq, jDv_eq, iZ_sub, iZ_toInt (by omega) (by omega)]
theorem jTd_in {s : jN} {r : jR} (hr : rOk r) (hg : rGood r) (ch : Nat → Nat) (k m x : Nat) : ((jTd s r ch k m x).natAbs : Int) ≤ 470160 := by
  have h1 := jDz_in (s := s) hr hg (jB s k) (ch k) m
  have h2 := jDz_in (s := s) hr hg (jB s k) (ch k) x
  rw [jTd_eq hr hg]
  omega
/-- HARSH -/
def hzI (F G : Nat → Int) : Nat → Int
  | 0 => 0
  | p + 1 => hzI F G p + ((F (p + 1) - G (p + 1)).natAbs : Int) * ((jP (p + 1) - 1 : Nat) : Int)
theorem jAbs_eq {a : Int} (h1 : -1000 ≤ a) (h2 : a ≤ 1000) : jAbs (iZ a) = iZ (a.natAbs : Int) := by
  unfold jAbs
  have h0 : (0 : Int32) = iZ 0 := rfl
  by_cases e : 0 ≤ a
  · rw [if_pos (by rw [h0, iZ_le (by omega) (by omega) (by omega) (by omega)]; exact e)]
    congr 1; omega
  · rw [if_neg (by rw [h0, iZ_le (by omega) (by omega) (by omega) (by omega)]; exact e), iZ_neg]
    congr 1; omega
theorem jHr_eq {F G : Nat → Int} (hF : ∀ p, -14 ≤ F p ∧ F p ≤ 14) (hG : ∀ p, -14 ≤ G p ∧ G p ≤ 14) : ∀ n, jHr (fun p => iZ (F p)) (fun p => iZ (G p)) n = iZ (hzI F G n)
  | 0 => rfl
  | p + 1 => by
    have h1 := hF (p + 1)
    have h2 := hG (p + 1)
    show jHr _ _ p + jAbs (iZ (F (p + 1)) - iZ (G (p + 1))) * nI (jP (p + 1) - 1) = iZ (hzI F G p + _)
    rw [jHr_eq hF hG p, iZ_sub, jAbs_eq (by omega) (by omega), nZ, iZ_mul, iZ_add]
theorem jP_le : ∀ p, jP p ≤ 13
  | 0 => by decide
  | 1 => by decide
  | 2 => by decide
  | 3 => by decide
  | 4 => by decide
  | 5 => by decide
  | _ + 6 => Nat.zero_le _
theorem hzI_in {F G : Nat → Int} (hF : ∀ p, -14 ≤ F p ∧ F p ≤ 14) (hG : ∀ p, -14 ≤ G p ∧ G p ≤ 14) : ∀ n : Nat, 0 ≤ hzI F G n ∧ hzI F G n ≤ 336 * n
  | 0 => ⟨Int.le_refl 0, Int.le_refl 0⟩
  | p + 1 => by
    obtain ⟨i1, i2⟩ := hzI_in hF hG p
    have h1 := hF (p + 1)
    have h2 := hG (p + 1)
    have h3 := jP_le (p + 1)
    show 0 ≤ hzI F G p + _ ∧ hzI F G p + _ ≤ _
    have a1 : 0 ≤ ((F (p + 1) - G (p + 1)).natAbs : Int) * ((jP (p + 1) - 1 : Nat) : Int) := Int.mul_nonneg (by omega) (by omega)
    have a2 : ((F (p + 1) - G (p + 1)).natAbs : Int) * ((jP (p + 1) - 1 : Nat) : Int) ≤ 28 * 12 := Int.mul_le_mul (by omega) (by omega) (by omega) (by omega)
    constructor
    · omega
    · push_cast; omega
def jPz (u d p : Nat) : Int := (jPw 14 u (jP p) : Int) - (jPw 14 d (jP p) : Int)
theorem jPd_eq (u d : Nat) : jPd u d = fun p => iZ (jPz u d p) := by
  funext p
  unfold jPd jPz
  rw [nZ, nZ, iZ_sub]
theorem jPz_in (u d p : Nat) : -14 ≤ jPz u d p ∧ jPz u d p ≤ 14 := by
  have h1 := jPw_le 14 u (jP p)
  have h2 := jPw_le 14 d (jP p)
  unfold jPz; omega
def jHvz (r : jR) (T : Nat → Nat) (m x : Nat) : Int := hzI (jPz (jU r (T m)) (jD r (T m))) (jPz (jU r (T x)) (jD r (T x))) 5
theorem jHv_eq (r : jR) (T : Nat → Nat) (m x : Nat) : jHv r T m x = iZ (jHvz r T m x) := by
  unfold jHv jHvz
  rw [jPd_eq, jPd_eq]
  exact jHr_eq (jPz_in _ _) (jPz_in _ _) 5
theorem jHvz_in (r : jR) (T : Nat → Nat) (m x : Nat) : 0 ≤ jHvz r T m x ∧ jHvz r T m x ≤ 1680 := hzI_in (jPz_in _ _) (jPz_in _ _) 5
def hsZ (g : Nat → Nat → Int) : List Nat → Int → Int
  | [], a => a
  | m :: t, a => hsZ g t (t.foldl (fun a x => a + g m x) a)
theorem fold_eq {f : Nat → Int32} {g : Nat → Int} (h : ∀ x, f x = iZ (g x)) : ∀ (l : List Nat) (a : Int), l.foldl (fun a x => a + f x) (iZ a) = iZ (l.foldl (fun a x => a + g x) a)
  | [], _ => rfl
  | x :: l, a => by
    show l.foldl _ (iZ a + f x) = iZ (l.foldl _ (a + g x))
    rw [h x, iZ_add]; exact fold_eq h l _
theorem jHsum_eq {f : Nat → Nat → Int32} {g : Nat → Nat → Int} (h : ∀ m x, f m x = iZ (g m x)) : ∀ (l : List Nat) (a : Int), jHsum f l (iZ a) = iZ (hsZ g l a)
  | [], _ => rfl
  | m :: t, a => by
    show jHsum f t (t.foldl _ (iZ a)) = iZ (hsZ g t _)
    rw [fold_eq (h m)]; exact jHsum_eq h t _
theorem fold_in {g : Nat → Int} {B : Int} (h : ∀ x, 0 ≤ g x ∧ g x ≤ B) : ∀ (l : List Nat) (a : Int), a ≤ l.foldl (fun a x => a + g x) a ∧ l.foldl (fun a x => a + g x) a ≤ a + B * l.length
  | [], a => by simp
  | x :: l, a => by
    obtain ⟨h1, h2⟩ := fold_in h l (a + g x)
    have := h x
    show a ≤ l.foldl _ (a + g x) ∧ l.foldl _ (a + g x) ≤ _
    rw [List.length_cons]
    constructor
    · omega
    · push_cast; rw [Int.mul_add]; omega
theorem hsZ_in {g : Nat → Nat → Int} {B : Int} (hB : 0 ≤ B) (h : ∀ m x, 0 ≤ g m x ∧ g m x ≤ B) : ∀ (l : List Nat) (a : Int), a ≤ hsZ g l a ∧ hsZ g l a ≤ a + B * (l.length * l.length : Nat)
  | [], a => by simp [hsZ]
  | m :: t, a => by
    obtain ⟨h1, h2⟩ := fold_in (h m) t a
    obtain ⟨h3, h4⟩ := hsZ_in hB h t (t.foldl (fun a x => a + g m x) a)
    show a ≤ hsZ g t _ ∧ hsZ g t _ ≤ _
    refine ⟨by omega, Int.le_trans h4 ?_⟩
    refine Int.le_trans (Int.add_le_add_right h2 _) ?_
    rw [Int.add_assoc, ← Int.mul_add]
    refine Int.add_le_add_left (Int.mul_le_mul_of_nonneg_left ?_ hB) a
    rw [List.length_cons]
    push_cast
    grind
def jHz (s : jN) (r : jR) (b rd : Nat) : Int := hsZ (jHvz r (jSl s r b rd)) (jMem s b) 0
theorem jHarsh_eq (s : jN) (r : jR) (b rd : Nat) : jHarsh s r b rd = iZ (jHz s r b rd) := jHsum_eq (jHv_eq r _) (jMem s b) 0
theorem jHz_in {s : jN} (h6 : jSix s) (r : jR) (b rd : Nat) : 0 ≤ jHz s r b rd ∧ jHz s r b rd ≤ 60480 := by
  obtain ⟨h1, h2⟩ := hsZ_in (by decide) (jHvz_in r (jSl s r b rd)) (jMem s b) 0
  have h3 : (jMem s b).length ≤ 6 := by rw [jMem_len]; exact h6 b
  have h4 : (jMem s b).length * (jMem s b).length ≤ 6 * 6 := Nat.mul_le_mul h3 h3
  unfold jHz
  refine ⟨h1, Int.le_trans h2 ?_⟩
  have : (1680 : Int) * (((jMem s b).length * (jMem s b).length : Nat) : Int) ≤ 1680 * 36 := Int.mul_le_mul_of_nonneg_left (by omega) (by decide)
  omega
def jAz (s : jN) (r : jR) (w : jW) (k rd : Nat) : Int := (w 0 : Int) * jHz s r (jB s k) rd
theorem jAh_eq {s : jN} (h6 : jSix s) {r : jR} {w : jW} (hw : wOk w) (k rd : Nat) : jAh s r w k rd = lZ (jAz s r w k rd) := by
  have h1 := jHz_in h6 r (jB s k) rd
  have h2 := hw.1
  unfold jAh jAz
  rw [jHarsh_eq, lZ_i2l (by omega) (by omega), nZ, lZ_i2l (by omega) (by omega), lZ_mul]
theorem jAz_in {s : jN} (h6 : jSix s) {r : jR} {w : jW} (hw : wOk w) (k rd : Nat) : 0 ≤ jAz s r w k rd ∧ jAz s r w k rd ≤ 60480000000 := by
  have h1 := jHz_in h6 r (jB s k) rd
  have h2 := hw.1
  unfold jAz
  constructor
  · exact Int.mul_nonneg (by omega) h1.1
  · have : (w 0 : Int) * jHz s r (jB s k) rd ≤ 1000000 * 60480 := Int.mul_le_mul (by omega) h1.2 h1.1 (by decide)
    omega
/-- STRAIN -/
def jDl (s : jN) (r : jR) (k rd o m : Nat) : Int := jDz s r (jB s (k + 1)) o m - jDz s r (jB s k) rd m
theorem jDl_in {s : jN} {r : jR} (hr : rOk r) (hg : rGood r) (k rd o m : Nat) : -470160 ≤ jDl s r k rd o m ∧ jDl s r k rd o m ≤ 470160 := by
  have h1 := jDz_in (s := s) hr hg (jB s (k + 1)) o m
  have h2 := jDz_in (s := s) hr hg (jB s k) rd m
  unfold jDl; omega
def sq2 (l : List Int) : Int := ls (fun d => d * d) l
def sm1 (l : List Int) : Int := ls (fun d => d) l
def strZ (l : List Int) : Int := if l.length = 0 then 0 else ((60 / l.length : Nat) : Int) * ((l.length : Int) * sq2 l - sm1 l * sm1 l)
theorem jSum_eq : ∀ (l : List Int) (a : Int), (l.map lZ).foldl (fun a d => a + d) (lZ a) = lZ (a + sm1 l)
  | [], a => by simp [sm1, ls]
  | x :: l, a => by
    show (l.map lZ).foldl _ (lZ a + lZ x) = lZ (a + (x + ls _ l))
    rw [lZ_add, jSum_eq l (a + x)]; unfold sm1; congr 1; omega
theorem jSq_eq : ∀ (l : List Int) (a : Int), (l.map lZ).foldl (fun a d => a + d * d) (lZ a) = lZ (a + sq2 l)
  | [], a => by simp [sq2, ls]
  | x :: l, a => by
    show (l.map lZ).foldl _ (lZ a + lZ x * lZ x) = lZ (a + (x * x + ls _ l))
    rw [lZ_mul, lZ_add, jSq_eq l (a + x * x)]; unfold sq2; congr 1; omega
theorem jStr2_eq {l : List Int} (hl : l.length ≤ 6) : jStr2 (l.map lZ) = lZ (strZ l) := by
  unfold jStr2 strZ
  rw [List.length_map]
  by_cases e : l.length = 0
  · rw [if_pos e, if_pos e]; rfl
  · rw [if_neg e, if_neg e]
    have h60 : 60 / l.length ≤ 60 := Nat.div_le_self _ _
    generalize 60 / l.length = q at h60
    unfold jSq jSum
    have h0 : (0 : Int64) = lZ 0 := rfl
    rw [h0, jSum_eq l 0, jSq_eq l 0, Int.zero_add, Int.zero_add, nZ, nZ, lZ_i2l (by omega) (by omega), lZ_i2l (by omega) (by omega), lZ_mul, lZ_mul, lZ_sub, lZ_mul]
theorem cauchy : ∀ l : List Int, sm1 l * sm1 l ≤ (l.length : Int) * sq2 l
  | [] => by simp [sm1, sq2, ls]
  | x :: l => by
    have ih := cauchy l
    have e : (((x :: l).length : Nat) : Int) * sq2 (x :: l) - sm1 (x :: l) * sm1 (x :: l) = ((l.length : Int) * sq2 l - sm1 l * sm1 l) + ls (fun y => (x - y) * (x - y)) l := by
      have e1 : ls (fun y => (x - y) * (x - y)) l = (x * x) * l.length - 2 * x * sm1 l + sq2 l := by
        rw [show ls (fun y => (x - y) * (x - y)) l = ls (fun y => (x * x - 2 * x * y) + y * y) l from ls_ext (fun y _ => by grind), ls_add, ls_sub, ls_const, ls_mul]; rfl
      rw [e1]
      show (((l.length + 1 : Nat)) : Int) * (x * x + sq2 l) - (x + sm1 l) * (x + sm1 l) = _
      push_cast; grind
    have : 0 ≤ ls (fun y => (x - y) * (x - y)) l := ls_nn (fun y _ => sq_nn _)
    omega
theorem sq2_in {B : Int} (hB : 0 ≤ B) : ∀ {l : List Int}, (∀ d, d ∈ l → -B ≤ d ∧ d ≤ B) → 0 ≤ sq2 l ∧ sq2 l ≤ B * B * l.length
  | l, h => by
    constructor
    · exact ls_nn (fun d _ => sq_nn d)
    · unfold sq2
      rw [← ls_const]
      refine ls_le (fun d hd => ?_)
      have h1 := h d hd
      have e : d * d = (d.natAbs : Int) * (d.natAbs : Int) := (Int.natAbs_mul_self' d).symm
      rw [e]
      exact Int.mul_le_mul (by omega) (by omega) (by omega) hB
theorem strZ_in {l : List Int} (hl : l.length ≤ 6) (h : ∀ d, d ∈ l → -470160 ≤ d ∧ d ≤ 470160) : 0 ≤ strZ l ∧ strZ l ≤ 79578153216000 := by
  unfold strZ
  by_cases e : l.length = 0
  · rw [if_pos e]; omega
  · rw [if_neg e]
    obtain ⟨q1, q2⟩ := sq2_in (B := 470160) (by decide) h
    have c := cauchy l
    have hn := sq_nn (sm1 l)
    have h60 : ((60 / l.length : Nat) : Int) * (l.length : Int) ≤ 60 := by
      have : 60 / l.length * l.length ≤ 60 := Nat.div_mul_le_self 60 l.length
      rw [← Int.natCast_mul]; exact Int.ofNat_le.mpr this
    generalize 60 / l.length = q at h60
    constructor
    · exact Int.mul_nonneg (by omega) (by omega)
    · have a1 : (q : Int) * ((l.length : Int) * sq2 l - sm1 l * sm1 l) ≤ (q : Int) * ((l.length : Int) * sq2 l) := Int.mul_le_mul_of_nonneg_left (by omega) (by omega)
      have a2 : (q : Int) * ((l.length : Int) * sq2 l) = ((q : Int) * (l.length : Int)) * sq2 l := by rw [Int.mul_assoc]
      have a3 : ((q : Int) * (l.length : Int)) * sq2 l ≤ 60 * sq2 l := Int.mul_le_mul_of_nonneg_right h60 q1
      have a4 : (470160 : Int) * 470160 * l.length ≤ 470160 * 470160 * 6 := Int.mul_le_mul_of_nonneg_left (by omega) (by decide)
      omega
def jDL (s : jN) (r : jR) (k rd o : Nat) : List Int := (jCm s k).map (jDl s r k rd o)
theorem lin1 (a b c : Int) : a + 10000 * c - (b + 10000 * c) = a - b := by omega
theorem lin2 (kb km : Nat) (z : Int) (h : kb ≤ km) : ((10000 * kb : Nat) : Int) + (z + 10000 * ((km - kb : Nat) : Int)) = z + 10000 * (km : Int) := by omega
theorem jOff_eq {s : jN} (ho : jOk s) (r : jR) {k rd m : Nat} (hk : k < (jS s).length) (hm : m < s.1) (hon : jOn s m (jB s k) = true) : jOff s r k rd m = iZ (jDz s r (jB s k) rd m + 10000 * ((s.2.1 m : Nat) : Int)) := by
  obtain ⟨q, hq, hqb⟩ := jQ hk
  have hsi := jS_in hq
  rw [hqb] at hsi
  have hb := jBase_in hsi.2.2
  have hle := jMem_min hb.1 hm hon
  unfold jOff
  rw [jTg_eq, nZ, iZ_add]
  exact congrArg iZ (lin2 _ _ _ hle)
theorem jDs_eq {s : jN} (ho : jOk s) {r : jR} (hr : rOk r) (hg : rGood r) {k rd o : Nat} (hk : k + 1 < (jS s).length) : jDs s r k rd o = (jDL s r k rd o).map lZ := by
  unfold jDs jDL
  rw [List.map_map]
  refine List.map_congr_left (fun m hm => ?_)
  obtain ⟨q0, hq0, hb0⟩ := jQ (show k < (jS s).length by omega)
  obtain ⟨q1, hq1, hb1⟩ := jQ hk
  obtain ⟨j, hj⟩ := List.getElem?_of_mem hm
  have hmm := jCm_mem hq0 hq1 hj
  rw [hb0, hb1] at hmm
  have hd := jDl_in (s := s) hr hg k rd o m
  show (jOff s r (k + 1) o m - jOff s r k rd m).toInt64 = lZ (jDl s r k rd o m)
  rw [jOff_eq ho r hk hmm.1 hmm.2.2, jOff_eq ho r (by omega) hmm.1 hmm.2.1, iZ_sub]
  rw [show jDz s r (jB s (k + 1)) o m + 10000 * ((s.2.1 m : Nat) : Int) - (jDz s r (jB s k) rd m + 10000 * ((s.2.1 m : Nat) : Int)) = jDl s r k rd o m from lin1 _ _ _]
  exact lZ_i2l (by omega) (by omega)
def jSZ (s : jN) (r : jR) (k rd o : Nat) : Int := strZ (jDL s r k rd o)
theorem jDL_len {s : jN} (h6 : jSix s) {r : jR} {k rd o : Nat} : (jDL s r k rd o).length ≤ 6 := by unfold jDL; rw [List.length_map]; exact jCm_len h6
theorem jStrain_eq {s : jN} (ho : jOk s) (h6 : jSix s) {r : jR} (hr : rOk r) (hg : rGood r) {k rd o : Nat} (hk : k + 1 < (jS s).length) : jStrain s r k rd o = lZ (jSZ s r k rd o) := by
  unfold jStrain jSZ
  rw [jDs_eq ho hr hg hk]
  exact jStr2_eq (jDL_len h6)
theorem jSZ_in {s : jN} (h6 : jSix s) {r : jR} (hr : rOk r) (hg : rGood r) (k rd o : Nat) : 0 ≤ jSZ s r k rd o ∧ jSZ s r k rd o ≤ 79578153216000 := strZ_in (jDL_len h6) (fun d hd => by
  obtain ⟨m, _, rfl⟩ := List.mem_map.mp hd
  exact jDl_in hr hg k rd o m)
/-- the least by the first least -/
theorem jMin_arg {f : Nat → Int64} : ∀ n, 0 < n → (∀ o, o < n → f o < 4611686018427387904) → jMin f n = (f (jArg f n), jArg f n)
  | 0, h, _ => absurd h (by omega)
  | 1, _, h => by
    show (if f 0 < 4611686018427387904 then (f 0, 0) else _) = _
    rw [if_pos (h 0 (by omega))]
    have : jArg f 1 = 0 := by show (if f 0 < f 0 then 0 else 0) = 0; split <;> rfl
    rw [this]
  | n + 2, _, h => by
    have ih := jMin_arg (f := f) (n + 1) (by omega) (fun o ho => h o (by omega))
    show (if f (n + 1) < (jMin f (n + 1)).1 then (f (n + 1), n + 1) else jMin f (n + 1)) = (f (if f (n + 1) < f (jArg f (n + 1)) then n + 1 else jArg f (n + 1)), if f (n + 1) < f (jArg f (n + 1)) then n + 1 else jArg f (n + 1))
    rw [ih]
    by_cases e : f (n + 1) < f (jArg f (n + 1))
    · rw [if_pos e, if_pos e]
    · rw [if_neg e, if_neg e]
/-- the costs as whole numbers -/
def jCz (s : jN) (r : jR) (w : jW) : Nat → Nat → Int
  | 0, rd => jAz s r w ((jS s).length - 1) rd
  | d + 1, rd => jAz s r w ((jS s).length - 1 - (d + 1)) rd + (fun o => jCz s r w d o + (w 1 : Int) * jSZ s r ((jS s).length - 1 - (d + 1)) rd o) (jArg (fun o => jCost s r w d o + (nI (w 1)).toInt64 * jStrain s r ((jS s).length - 1 - (d + 1)) rd o) (jCn s r ((jS s).length - 1 - (d + 1) + 1)))
theorem w1_l {w : jW} (hw : wOk w) : (nI (w 1)).toInt64 = lZ (w 1 : Int) := by
  have := hw.2 1 (by decide) (by decide)
  rw [nZ, lZ_i2l (by omega) (by omega)]
theorem step_eq {s : jN} (ho : jOk s) (h6 : jSix s) {r : jR} (hr : rOk r) (hg : rGood r) {w : jW} (hw : wOk w) {d k rd o : Nat} (hk : k + 1 < (jS s).length) (hc : jCost s r w d o = lZ (jCz s r w d o)) : jCost s r w d o + (nI (w 1)).toInt64 * jStrain s r k rd o = lZ (jCz s r w d o + (w 1 : Int) * jSZ s r k rd o) := by
  rw [hc, w1_l hw, jStrain_eq ho h6 hr hg hk, lZ_mul, lZ_add]
theorem step_in {s : jN} (h6 : jSix s) {r : jR} (hr : rOk r) (hg : rGood r) {w : jW} (hw : wOk w) (k rd o : Nat) : 0 ≤ (w 1 : Int) * jSZ s r k rd o ∧ (w 1 : Int) * jSZ s r k rd o ≤ 7878237168384000 := by
  obtain ⟨h1, h2⟩ := jSZ_in (s := s) h6 hr hg k rd o
  have := hw.2 1 (by decide) (by decide)
  constructor
  · exact Int.mul_nonneg (by omega) h1
  · have : (w 1 : Int) * jSZ s r k rd o ≤ 99 * 79578153216000 := Int.mul_le_mul (by omega) h2 h1 (by decide)
    omega
theorem jCost_eq {s : jN} (ho : jOk s) (h6 : jSix s) {r : jR} (hr : rOk r) (hg : rGood r) {w : jW} (hw : wOk w) (hp : ∀ k, k < (jS s).length → 0 < jCn s r k) : ∀ d, d < (jS s).length → ∀ rd, jCost s r w d rd = lZ (jCz s r w d rd) ∧ 0 ≤ jCz s r w d rd ∧ jCz s r w d rd ≤ 8000000000000000 * (d + 1)
  | 0, _, rd => by
    have := jAz_in (r := r) h6 hw ((jS s).length - 1) rd
    exact ⟨jAh_eq h6 hw _ rd, this.1, by show jAz s r w ((jS s).length - 1) rd ≤ _; omega⟩
  | d + 1, hd, rd => by
    have ih := jCost_eq ho h6 hr hg hw hp d (by omega)
    have hSl := jS_len s
    have hk : (jS s).length - 1 - (d + 1) + 1 < (jS s).length := by omega
    have hpn := hp _ hk
    have ha := jAz_in (r := r) h6 hw ((jS s).length - 1 - (d + 1)) rd
    have hs := fun o => step_in h6 hr hg hw ((jS s).length - 1 - (d + 1)) rd o
    have heq := fun o => step_eq (rd := rd) ho h6 hr hg hw hk (ih o).1
    have hm := jMin_arg (f := fun o => jCost s r w d o + (nI (w 1)).toInt64 * jStrain s r ((jS s).length - 1 - (d + 1)) rd o) _ hpn (fun o _ => by
      have h1 := hs o
      have h2 := (ih o).2
      show jCost s r w d o + (nI (w 1)).toInt64 * jStrain s r ((jS s).length - 1 - (d + 1)) rd o < 4611686018427387904
      rw [heq o, show (4611686018427387904 : Int64) = lZ 4611686018427387904 from rfl, lZ_lt (by omega) (by omega) (by omega) (by omega)]
      omega)
    show jAh s r w _ rd + (jMin _ _).1 = lZ (jAz s r w _ rd + _) ∧ 0 ≤ jAz s r w _ rd + _ ∧ jAz s r w _ rd + _ ≤ _
    rw [hm]
    generalize jArg (fun o => jCost s r w d o + (nI (w 1)).toInt64 * jStrain s r ((jS s).length - 1 - (d + 1)) rd o) (jCn s r ((jS s).length - 1 - (d + 1) + 1)) = a
    have h1 := hs a
    have h2 := (ih a).2
    refine ⟨?_, ?_, ?_⟩
    · show jAh s r w _ rd + (jCost s r w d a + (nI (w 1)).toInt64 * jStrain s r ((jS s).length - 1 - (d + 1)) rd a) = _
      rw [heq a, jAh_eq h6 hw, lZ_add]
    · show 0 ≤ jAz s r w _ rd + (jCz s r w d a + (w 1 : Int) * jSZ s r ((jS s).length - 1 - (d + 1)) rd a)
      omega
    · show jAz s r w _ rd + (jCz s r w d a + (w 1 : Int) * jSZ s r ((jS s).length - 1 - (d + 1)) rd a) ≤ _
      push_cast; omega
theorem jGo_eq {s : jN} (ho : jOk s) (h6 : jSix s) {r : jR} (hr : rOk r) (hg : rGood r) {w : jW} (hw : wOk w) (hp : ∀ k, k < (jS s).length → 0 < jCn s r k) {k : Nat} (hk : k + 1 < (jS s).length) (rd o : Nat) : jGo s r w k rd o = lZ (jCz s r w ((jS s).length - 1 - (k + 1)) o + (w 1 : Int) * jSZ s r k rd o) ∧ 0 ≤ jCz s r w ((jS s).length - 1 - (k + 1)) o + (w 1 : Int) * jSZ s r k rd o ∧ jCz s r w ((jS s).length - 1 - (k + 1)) o + (w 1 : Int) * jSZ s r k rd o < 4611686018427387904 := by
  have hc := jCost_eq ho h6 hr hg hw hp ((jS s).length - 1 - (k + 1)) (by omega) o
  have hs := step_in h6 hr hg hw k rd o
  have hSl := jS_len s
  exact ⟨step_eq ho h6 hr hg hw hk hc.1, by omega, by omega⟩
theorem jNs_ok {s : jN} (ho : jOk s) (h6 : jSix s) {r : jR} (hr : rOk r) (hg : rGood r) {w : jW} (hw : wOk w) (hp : ∀ k, k < (jS s).length → 0 < jCn s r k) : jNs s r w := by
  intro k rd o hk hrd hro
  obtain ⟨h1, h2, h3⟩ := jGo_eq ho h6 hr hg hw hp hk rd o
  have hc := jCost_eq ho h6 hr hg hw hp ((jS s).length - 1 - (k + 1)) (by omega) o
  have hs := step_in h6 hr hg hw k rd o
  rw [h1, hc.1, lZ_le (by omega) (by omega) (by omega) (by omega)]
  omega
theorem jFol_arg {s : jN} (ho : jOk s) (h6 : jSix s) {r : jR} (hr : rOk r) (hg : rGood r) {w : jW} (hw : wOk w) (hp : ∀ k, k < (jS s).length → 0 < jCn s r k) {k : Nat} (hk : k + 1 < (jS s).length) (rd : Nat) : jFol s r w k rd = jArg (jGo s r w k rd) (jCn s r (k + 1)) := by
  unfold jFol
  rw [jMin_arg _ (hp _ hk) (fun o _ => by
    obtain ⟨h1, h2, h3⟩ := jGo_eq ho h6 hr hg hw hp hk rd o
    rw [h1, show (4611686018427387904 : Int64) = lZ 4611686018427387904 from rfl, lZ_lt (by omega) (by omega) (by omega) (by omega)]
    exact h3)]
