/-! THE REFERENCE'S TERMS -/
def tmN (s : jN) (w : jW) (k m : Nat) : Tm := (jV s k m, jV s (k - 1) m, (w 3 : Int), 0)
def rMv (s : jN) (k m : Nat) : Bool := decide (0 < k) && jOn s m (jB s (k - 1)) && !s.2.2.2.2 m
def rK1 (s : jN) (r : jR) (ch : Nat → Nat) (w : jW) (k : Nat) : Nat → List Tm
  | 0 => []
  | n + 1 => if jOn s n (jB s k) then rK1 s r ch w k n ++ (jML s (jB s k) n).map (tmCh s r ch w k n) ++ (if rMv s k n then [tmN s w k n] else []) else rK1 s r ch w k n
def rT1 (s : jN) (r : jR) (ch : Nat → Nat) (w : jW) : Nat → List Tm
  | 0 => []
  | k + 1 => rT1 s r ch w k ++ rK1 s r ch w k s.1
def fSym (F : Tm → Int) : Prop := ∀ x y w t, F (x, y, w, t) = F (y, x, w, -t)
theorem ls_ext2 {α : Type} {f g : α → Int} : ∀ {l : List α}, (∀ a, a ∈ l → f a = g a) → ls f l = ls g l
  | [], _ => rfl
  | a :: l, h => by
    show f a + ls f l = g a + ls g l
    rw [h a (List.mem_cons_self ..), ls_ext2 (fun b hb => h b (List.mem_cons_of_mem _ hb))]
theorem ls_map {α β : Type} (f : β → Int) (g : α → β) : ∀ l : List α, ls f (l.map g) = ls (fun a => f (g a)) l
  | [] => rfl
  | a :: l => by
    show f (g a) + ls f (l.map g) = f (g a) + ls _ l
    rw [ls_map f g l]
theorem pairs_snoc (F : Tm → Int) (f : Nat → Nat → Tm) (i : Nat) : ∀ l : List Nat, ls F (pairsL f (l ++ [i])) = ls F (pairsL f l) + ls F (l.map (fun m => f m i))
  | [] => rfl
  | m :: t => by
    have ih := pairs_snoc F f i t
    show ls F ((t ++ [i]).map (f m) ++ pairsL f (t ++ [i])) = ls F (t.map (f m) ++ pairsL f t) + (F (f m i) + ls F (t.map (fun m => f m i)))
    rw [ls_app, ls_app, ih, List.map_append, ls_app]
    show ls F (t.map (f m)) + (F (f m i) + 0) + _ = _
    omega
theorem ch_flip {s : jN} {r : jR} (hr : rOk r) (hg : rGood r) {ch : Nat → Nat} {w : jW} {k m x : Nat} {F : Tm → Int} (hF : fSym F) : F (tmCh s r ch w k m x) = F (tmCh s r ch w k x m) := by
  unfold tmCh
  rw [hF, jTd_eq hr hg, jTd_eq hr hg]
  congr 4
  omega
theorem ls_rK1 {s : jN} {r : jR} (hr : rOk r) (hg : rGood r) {ch : Nat → Nat} {w : jW} {F : Tm → Int} (hF : fSym F) (k : Nat) : ∀ n, ls F (rK1 s r ch w k n) = ls F (pairsL (tmCh s r ch w k) (jML s (jB s k) n)) + ls F (((jML s (jB s k) n).filter (rMv s k)).map (tmN s w k))
  | 0 => rfl
  | n + 1 => by
    have ih := ls_rK1 hr hg hF (s := s) (ch := ch) (w := w) k n
    have u1 : rK1 s r ch w k (n + 1) = if jOn s n (jB s k) then rK1 s r ch w k n ++ (jML s (jB s k) n).map (tmCh s r ch w k n) ++ (if rMv s k n then [tmN s w k n] else []) else rK1 s r ch w k n := rfl
    have u2 : jML s (jB s k) (n + 1) = if jOn s n (jB s k) then jML s (jB s k) n ++ [n] else jML s (jB s k) n := rfl
    rw [u1, u2]
    by_cases e : jOn s n (jB s k) = true
    · rw [if_pos e, if_pos e, ls_app, ls_app, ih, pairs_snoc, List.filter_append, List.map_append, ls_app]
      have e1 : ls F ((jML s (jB s k) n).map (tmCh s r ch w k n)) = ls F ((jML s (jB s k) n).map (fun m => tmCh s r ch w k m n)) := by
        rw [ls_map, ls_map]; exact ls_ext2 (fun a _ => ch_flip hr hg hF)
      have e2 : ls F (if rMv s k n then [tmN s w k n] else []) = ls F (([n].filter (rMv s k)).map (tmN s w k)) := by
        by_cases g : rMv s k n = true
        · rw [if_pos g, List.filter_cons_of_pos g]; rfl
        · rw [if_neg g, List.filter_cons_of_neg g]; rfl
      rw [e1, e2]; omega
    · rw [if_neg e, if_neg e]; exact ih
theorem cm_filter (s : jN) (t u : Nat) (p : Nat → Bool) : ∀ n, (jML s t n).filter (fun m => jOn s m u && p m) = (jML s u n).filter (fun m => jOn s m t && p m)
  | 0 => rfl
  | n + 1 => by
    have ih := cm_filter s t u p n
    have u1 : jML s t (n + 1) = if jOn s n t then jML s t n ++ [n] else jML s t n := rfl
    have u2 : jML s u (n + 1) = if jOn s n u then jML s u n ++ [n] else jML s u n := rfl
    rw [u1, u2]
    by_cases a : jOn s n t = true <;> by_cases b : jOn s n u = true
    · rw [if_pos a, if_pos b, List.filter_append, List.filter_append, ih]
      congr 1
      simp [List.filter, a, b]
    · rw [if_pos a, if_neg b, List.filter_append, ih]
      have b' : jOn s n u = false := Bool.eq_false_iff.mpr b
      simp [List.filter, b']
    · rw [if_neg a, if_pos b, List.filter_append, ih]
      have a' : jOn s n t = false := Bool.eq_false_iff.mpr a
      simp [List.filter, a']
    · rw [if_neg a, if_neg b]; exact ih
def mvS (s : jN) (w : jW) (F : Tm → Int) (k : Nat) : Int := ls F (((jCm s k).filter (fun m => !s.2.2.2.2 m)).map (tmMv s w k))
theorem mv_flip {s : jN} {w : jW} {F : Tm → Int} (hF : fSym F) (k : Nat) : ls F (((jMem s (jB s (k + 1))).filter (rMv s (k + 1))).map (tmN s w (k + 1))) = mvS s w F k := by
  unfold mvS
  have e : (jMem s (jB s (k + 1))).filter (rMv s (k + 1)) = (jCm s k).filter (fun m => !s.2.2.2.2 m) := by
    have h := cm_filter s (jB s (k + 1)) (jB s k) (fun m => !s.2.2.2.2 m) s.1
    have h1 : (jMem s (jB s (k + 1))).filter (rMv s (k + 1)) = (jMem s (jB s (k + 1))).filter (fun m => jOn s m (jB s k) && !s.2.2.2.2 m) := by
      refine List.filter_congr (fun m _ => ?_)
      unfold rMv
      rw [show decide (0 < k + 1) = true from decide_eq_true (by omega), Bool.true_and, Nat.add_sub_cancel]
    rw [h1]
    unfold jCm
    rw [List.filter_filter]
    refine h.trans (List.filter_congr (fun m _ => Bool.and_comm _ _))
  rw [e, ls_map, ls_map]
  refine ls_ext2 (fun m _ => ?_)
  unfold tmN tmMv
  rw [hF, Nat.add_sub_cancel, Int.neg_zero]
theorem mv_zero {s : jN} {w : jW} {F : Tm → Int} : ls F (((jMem s (jB s 0)).filter (rMv s 0)).map (tmN s w 0)) = 0 := by
  have : (jMem s (jB s 0)).filter (rMv s 0) = [] := List.filter_eq_nil_iff.mpr (fun m _ => by unfold rMv; simp)
  rw [this]; rfl
theorem ls_rT1 {s : jN} {r : jR} (hr : rOk r) (hg : rGood r) {ch : Nat → Nat} {w : jW} {F : Tm → Int} (hF : fSym F) : ∀ n, n ≤ (jS s).length → ls F (rT1 s r ch w n) + (if 0 < n ∧ n < (jS s).length then mvS s w F (n - 1) else 0) = ls F (jTs s r ch w n)
  | 0, _ => rfl
  | n + 1, hn => by
    have ih := ls_rT1 hr hg hF (s := s) (ch := ch) (w := w) n (by omega)
    show ls F (rT1 s r ch w n ++ rK1 s r ch w n s.1) + _ = ls F (jTs s r ch w n ++ jTk s r ch w n)
    rw [ls_app, ls_app, ls_rK1 hr hg hF]
    unfold jTk
    rw [ls_app, ← ih]
    have e1 : ls F (if n + 1 < (jS s).length then ((jCm s n).filter (fun m => !s.2.2.2.2 m)).map (tmMv s w n) else []) = if n + 1 < (jS s).length then mvS s w F n else 0 := by
      by_cases g : n + 1 < (jS s).length
      · rw [if_pos g, if_pos g]; rfl
      · rw [if_neg g, if_neg g]; rfl
    have e2 : (if 0 < n + 1 ∧ n + 1 < (jS s).length then mvS s w F (n + 1 - 1) else 0) = if n + 1 < (jS s).length then mvS s w F n else 0 := by
      by_cases g : n + 1 < (jS s).length
      · rw [if_pos g, if_pos ⟨by omega, g⟩, Nat.add_sub_cancel]
      · rw [if_neg g, if_neg (fun z => g z.2)]
    have e3 : ls F (((jML s (jB s n) s.1).filter (rMv s n)).map (tmN s w n)) = if 0 < n ∧ n < (jS s).length then mvS s w F (n - 1) else 0 := by
      cases n with
      | zero => rw [if_neg (by omega)]; exact mv_zero
      | succ n => rw [if_pos ⟨by omega, by omega⟩, Nat.add_sub_cancel]; exact mv_flip hF n
    rw [e1, e2, e3]
    show _ = _ + (ls F (pairsL (tmCh s r ch w n) (jML s (jB s n) s.1)) + _)
    omega
theorem rT_all {s : jN} {r : jR} (hr : rOk r) (hg : rGood r) {ch : Nat → Nat} {w : jW} {F : Tm → Int} (hF : fSym F) : ls F (rT1 s r ch w (jS s).length) = ls F (jT s r ch w) := by
  have := ls_rT1 hr hg hF (s := s) (ch := ch) (w := w) (jS s).length (Nat.le_refl _)
  rw [if_neg (by omega)] at this
  show _ = ls F (jTs s r ch w (jS s).length)
  omega
theorem dl_flip (x y : Nat) (w t : Int) (i : Nat) : dl (x, y, w, t) i = - dl (y, x, w, -t) i := by
  show dl1 x i - dl1 y i = -(dl1 y i - dl1 x i); omega
theorem rT_A {s : jN} {r : jR} (hr : rOk r) (hg : rGood r) {ch : Nat → Nat} {w : jW} {E : List Nat} {e : Int} (i j : Nat) : tA (rT1 s r ch w (jS s).length) E e i j = tA (jT s r ch w) E e i j := by
  unfold tA
  rw [rT_all hr hg (F := fun τ => τ.2.2.1 * (dl τ i * dl τ j)) (fun x y w t => by
    show w * (dl (x, y, w, t) i * dl (x, y, w, t) j) = w * (dl (y, x, w, -t) i * dl (y, x, w, -t) j)
    rw [dl_flip x y, dl_flip x y w t j, Int.neg_mul_neg])]
theorem rT_B {s : jN} {r : jR} (hr : rOk r) (hg : rGood r) {ch : Nat → Nat} {w : jW} {E : List Nat} {e : Int} {q : Nat → Int} (i : Nat) : tB' (rT1 s r ch w (jS s).length) E e q i = tB' (jT s r ch w) E e q i := by
  unfold tB'
  rw [rT_all hr hg (F := fun τ => τ.2.2.1 * (τ.2.2.2 + (q τ.1 - q τ.2.1)) * dl τ i) (fun x y w t => by
    show w * (t + (q x - q y)) * dl (x, y, w, t) i = w * (-t + (q y - q x)) * dl (y, x, w, -t) i
    rw [dl_flip x y]; grind)]
theorem rT_C {s : jN} {r : jR} (hr : rOk r) (hg : rGood r) {ch : Nat → Nat} {w : jW} {E : List Nat} {e : Int} {q : Nat → Int} : tC' (rT1 s r ch w (jS s).length) E e q = tC' (jT s r ch w) E e q := by
  unfold tC'
  rw [rT_all hr hg (F := fun τ => τ.2.2.1 * (τ.2.2.2 + (q τ.1 - q τ.2.1)) * (τ.2.2.2 + (q τ.1 - q τ.2.1))) (fun x y w t => by
    show w * (t + (q x - q y)) * (t + (q x - q y)) = w * (-t + (q y - q x)) * (-t + (q y - q x))
    grind)]
def cnF (f : Nat → Int) (τ : Tm) : Int := if 0 < τ.2.2.1 then (f τ.1 - f τ.2.1) * (f τ.1 - f τ.2.1) else 0
theorem cnF_nn (f : Nat → Int) (τ : Tm) : 0 ≤ cnF f τ := by
  unfold cnF; split
  · exact sq_nn _
  · omega
theorem cnF_iff (f : Nat → Int) (T : List Tm) : (∀ τ, τ ∈ T → 0 < τ.2.2.1 → f τ.1 = f τ.2.1) ↔ ls (cnF f) T = 0 := by
  constructor
  · intro h
    have : ls (cnF f) T = ls (fun _ => 0) T := ls_ext2 (fun τ ht => by
      unfold cnF
      by_cases e : 0 < τ.2.2.1
      · rw [if_pos e, h τ ht e, Int.sub_self]; rfl
      · rw [if_neg e])
    rw [this]
    clear this h
    induction T with
    | nil => rfl
    | cons a l ih => show 0 + ls _ l = 0; omega
  · intro h τ ht hw
    have h1 := ls_mem_le (f := cnF f) (l := T) (fun a _ => cnF_nn f a) τ ht
    have h2 := cnF_nn f τ
    have h3 : cnF f τ = 0 := by omega
    unfold cnF at h3
    rw [if_pos hw] at h3
    have := sq_0 h3
    omega
theorem rT_Cn {s : jN} {r : jR} (hr : rOk r) (hg : rGood r) {ch : Nat → Nat} {w : jW} (i j : Nat) : Cn (rT1 s r ch w (jS s).length) i j ↔ Cn (jT s r ch w) i j := by
  have h : ∀ f : Nat → Int, ls (cnF f) (rT1 s r ch w (jS s).length) = ls (cnF f) (jT s r ch w) := fun f => rT_all hr hg (fun x y w t => by
    show (if 0 < w then (f x - f y) * (f x - f y) else 0) = if 0 < w then (f y - f x) * (f y - f x) else 0
    congr 1
    grind)
  constructor
  · intro hc f hf
    exact hc f ((cnF_iff f _).mpr ((h f).trans ((cnF_iff f _).mp hf)))
  · intro hc f hf
    exact hc f ((cnF_iff f _).mpr ((h f).symm.trans ((cnF_iff f _).mp hf)))
def sEr (S : jQt) (T : List Tm) (E : List Nat) (e : Int) (q : Nat → Int) : Prop := (∀ i j, S.1 i j = tA T E e i j) ∧ (∀ i, S.2.1 i = tB' T E e q i) ∧ S.2.2 = tC' T E e q
theorem sEr_pair {S : jQt} {T : List Tm} {E : List Nat} {e : Int} {q : Nat → Int} (h : sEr S T E e q) (x y : Nat) (w t u : Int) (hu : u = t + (q x - q y)) : sEr (jPair S x y w u) (T ++ [(x, y, w, t)]) E e q := by
  refine ⟨fun i j => ?_, fun i => ?_, ?_⟩
  · have e1 : (jPair S x y w u).1 i j = S.1 i j + w * (dl1 x i * dl1 x j) + w * (dl1 y i * dl1 y j) + (-w) * (dl1 x i * dl1 y j) + (-w) * (dl1 y i * dl1 x j) := by
      unfold jPair jA jBq jCq
      simp only [Int.sub_eq_add_neg]
      rw [aU_dl, aU_dl, aU_dl, aU_dl]
    rw [e1, h.1]
    unfold tA
    rw [ls_app]
    show _ = ls _ T + (w * (dl (x, y, w, t) i * dl (x, y, w, t) j) + 0) + _
    unfold dl
    grind
  · have e1 : (jPair S x y w u).2.1 i = S.2.1 i + w * u * dl1 x i + (-(w * u)) * dl1 y i := by
      unfold jPair jA jBq jCq
      simp only [Int.sub_eq_add_neg]
      rw [va_dl, va_dl]
    rw [e1, h.2.1]
    unfold tB'
    rw [ls_app]
    show _ = ls _ T + (w * (t + (q x - q y)) * dl (x, y, w, t) i + 0) + _
    rw [← hu]
    unfold dl
    grind
  · show S.2.2 + w * u * u = _
    rw [h.2.2]
    unfold tC'
    rw [ls_app]
    show _ = ls _ T + (w * (t + (q x - q y)) * (t + (q x - q y)) + 0) + _
    rw [← hu]
    omega
theorem sEr_eq {S : jQt} {T : List Tm} {E : List Nat} {e : Int} {q : Nat → Int} (h : sEr S T E e q) (x : Nat) : sEr (aU S.1 x x (S.1 x x + e), va_up S.2.1 x (S.2.1 x + e * q x), S.2.2 + e * q x * q x) T (E ++ [x]) e q := by
  refine ⟨fun i j => ?_, fun i => ?_, ?_⟩
  · show aU S.1 x x (S.1 x x + e) i j = _
    rw [aU_dl, h.1]
    unfold tA
    rw [ls_app]
    show _ = ls _ T + e * (ls _ E + (dl1 x i * dl1 x j + 0))
    grind
  · show va_up S.2.1 x (S.2.1 x + e * q x) i = _
    rw [va_dl, h.2.1]
    unfold tB'
    rw [ls_app]
    show _ = ls _ T + e * (ls _ E + (q x * dl1 x i + 0))
    grind
  · show S.2.2 + e * q x * q x = _
    rw [h.2.2]
    unfold tC'
    rw [ls_app]
    show _ = ls _ T + e * (ls _ E + (q x * q x + 0))
    grind
def rsRep (L : Nat → Nat → Int64) (n : Nat) (S : jQt) : Prop := (∀ i j, i < n → j < n → L 182 (20 * i + j) = lZ (S.1 i j)) ∧ (∀ i, i < n → L 183 i = lZ (S.2.1 i)) ∧ L 159 33 = lZ S.2.2
def hgRep (I : Nat → Nat → Int32) (n : Nat) (f : Nat → Nat) : Prop := ∀ i, i < n → I 185 i = nI (f i) ∧ f i < n
theorem rs_A {L : Nat → Nat → Int64} {n : Nat} {S : jQt} (h : rsRep L n S) (hn : n ≤ 20) {x y : Nat} (hy : y < n) (v : Int) : rsRep (aU L 182 (20 * x + y) (lZ v)) n (jA S x y v) := by
  refine ⟨fun i j hi hj => ?_, fun i hi => ?_, ?_⟩
  · show _ = lZ (aU S.1 x y v i j)
    by_cases e : i = x ∧ j = y
    · obtain ⟨rfl, rfl⟩ := e; rw [aU_s, aU_s]
    · rw [aU_n (by omega), aU_n e]; exact h.1 i j hi hj
  · rw [aU_n (by omega)]; exact h.2.1 i hi
  · rw [aU_n (by omega)]; exact h.2.2
theorem rs_B {L : Nat → Nat → Int64} {n : Nat} {S : jQt} (h : rsRep L n S) {x : Nat} (v : Int) : rsRep (aU L 183 x (lZ v)) n (jBq S x v) := by
  refine ⟨fun i j hi hj => ?_, fun i hi => ?_, ?_⟩
  · rw [aU_n (by omega)]; exact h.1 i j hi hj
  · show _ = lZ (va_up S.2.1 x v i)
    by_cases e : i = x
    · subst e; rw [aU_s]; simp [va_up]
    · rw [aU_n (by omega)]; simp only [va_up, if_neg e]; exact h.2.1 i hi
  · rw [aU_n (by omega)]; exact h.2.2
theorem rs_C {L : Nat → Nat → Int64} {n : Nat} {S : jQt} (h : rsRep L n S) (v : Int) : rsRep (aU L 159 33 (lZ v)) n (jCq S v) :=
  ⟨fun i j hi hj => by rw [aU_n (by omega)]; exact h.1 i j hi hj, fun i hi => by rw [aU_n (by omega)]; exact h.2.1 i hi, by rw [aU_s]; rfl⟩
def rqK (L L' : Nat → Nat → Int64) : Prop := ∀ q j, ¬ (q = 182 ∨ q = 183 ∨ (q = 159 ∧ j = 33)) → L' q j = L q j
set_option maxHeartbeats 1000000 in
theorem ml_atm {I : Nat → Nat → Int32} {L : Nat → Nat → Int64} {R : Nat → Nat → Option Nat} (hR : aRf R) {L0 : Nat → Nat → Int64} {n : Nat} (hn : I 159 21 = nI n) (hn20 : n ≤ 20) {S9 : jQt} (hS9 : rsRep L n S9) (hL9 : rqK L0 L) {f : Nat → Nat} (hf : hgRep I n f) {x y : Nat} (hx : x < n) (hy : y < n) {t u : Int} {w : Nat} (hwp : 0 < (w : Int)) : ∀ (k9 k : Nat), k ≤ n → n - k = k9 → ∀ (I1 : Nat → Nat → Int32), (∀ j, j < k → I1 185 j = nI (if f j = f x then f y else f j)) → (∀ j, k ≤ j → j < n → I1 185 j = nI (f j)) → (∀ q j, q ≠ 185 → I1 q j = I q j) → aX mX11_addTerm aE0 (sh0, I1, L, R) 131 [(0, .ref 159), (1, .int (nI (x))), (2, .int (nI (y))), (3, .long (lZ (t))), (5, .long (lZ ((w : Int)))), (7, .int (nI (f x))), (8, .int (nI (f y))), (9, .int (nI (k)))] [] 0 0 (fun ans h' => ans = none ∧ ∃ I' L', h' = (sh0, I', L', R) ∧ rsRep L' n S9 ∧ hgRep I' n (hRel (x, y, (w : Int), u) f) ∧ (∀ q j, q ≠ 185 → I' q j = I q j) ∧ rqK L0 L') := by
  intro k9
  induction k9 using Nat.strongRecOn with
  | _ k9 ih =>
    intro k hi hk9 I1  ha hb hk
    refine aX_iload dX11_addTerm_131 rfl ?_
    refine aX_aload_n dX11_addTerm_133 rfl ?_
    refine aX_get (v := .int (nI (n))) dX11_addTerm_134 lfX11_160 s159 (congrArg Value.int ((hk 159 21 (by omega)).trans hn)) ?_
    refine nGe (tgt := 177) dX11_addTerm_137 (by decide) (by first | omega | exact Nat.lt_of_le_of_lt (Nat.mod_le _ _) (by omega)) (by first | omega | exact Nat.lt_of_le_of_lt (Nat.mod_le _ _) (by omega)) (fun c1 => ?_) (fun c1 => ?_)
    · have hkn : k = n := by omega
      exact rV dX11_addTerm_177 rfl (⟨rfl, I1, L, rfl, hS9, fun i hi => by
            unfold hRel
            rw [if_pos hwp]
            have h1 := hf i hi
            have h2 := hf y hy
            refine ⟨ha i (by omega), ?_⟩
            show (if f i = f x then f y else f i) < n
            split
            · exact h2.2
            · exact h1.2, hk, hL9⟩)
    · have hkn : k < n := c1
      have hfk := (hf k hkn).2
      have hfx := (hf x hx).2
      have hfy := (hf y hy).2
      refine aX_aload_n dX11_addTerm_140 rfl ?_
      refine aX_get dX11_addTerm_141 lfX11_95 s159 (f159_30 hR) ?_
      refine aX_iload dX11_addTerm_144 rfl ?_
      refine aX_aload_n dX11_addTerm_146 rfl ?_
      refine aX_get dX11_addTerm_147 lfX11_95 s159 (f159_30 hR) ?_
      refine aX_iload dX11_addTerm_150 rfl ?_
      refine nIald (v := nI (f k)) dX11_addTerm_152 s185 (by first | omega | exact Nat.lt_of_le_of_lt (Nat.mod_le _ _) (by omega)) (by decide) (hb k (Nat.le_refl _) hkn) ?_
      refine aX_iload dX11_addTerm_153 rfl ?_
      refine nNe (tgt := 163) dX11_addTerm_155 (by decide) (by first | omega | exact Nat.lt_of_le_of_lt (Nat.mod_le _ _) (by omega)) (by first | omega | exact Nat.lt_of_le_of_lt (Nat.mod_le _ _) (by omega)) (fun c2 => ?_) (fun c2 => ?_)
      · have hce : ¬ f k = f x := c2
        refine aX_aload_n dX11_addTerm_163 rfl ?_
        refine aX_get dX11_addTerm_164 lfX11_95 s159 (f159_30 hR) ?_
        refine aX_iload dX11_addTerm_167 rfl ?_
        refine nIald (v := nI (f k)) dX11_addTerm_169 s185 (by first | omega | exact Nat.lt_of_le_of_lt (Nat.mod_le _ _) (by omega)) (by decide) (hb k (Nat.le_refl _) hkn) ?_
        refine nIast dX11_addTerm_170 s185 (by first | omega | exact Nat.lt_of_le_of_lt (Nat.mod_le _ _) (by omega)) (by decide) ?_
        refine nInc (lv' := [(0, .ref 159), (1, .int (nI (x))), (2, .int (nI (y))), (3, .long (lZ (t))), (5, .long (lZ ((w : Int)))), (7, .int (nI (f x))), (8, .int (nI (f y))), (9, .int (nI (k + 1)))]) dX11_addTerm_171 rfl rfl (by decide) rfl ?_
        refine aX_goto (tgt := 131) dX11_addTerm_174 (by decide) ?_
        exact ih (n - (k + 1)) (by omega) (k + 1) (by omega) rfl _ (fun j hj => by
          by_cases e : j = k
          · subst e; rw [aU_s, if_neg hce]
          · rw [aU_n (by omega)]; exact ha j (by omega)) (fun j h1 h2 => by rw [aU_n (by omega)]; exact hb j (by omega) h2) (fun q j g => by rw [aU_n (by omega)]; exact hk q j g)
      · have hce : f k = f x := c2
        refine aX_iload dX11_addTerm_158 rfl ?_
        refine aX_goto (tgt := 170) dX11_addTerm_160 (by decide) ?_
        refine nIast dX11_addTerm_170 s185 (by first | omega | exact Nat.lt_of_le_of_lt (Nat.mod_le _ _) (by omega)) (by decide) ?_
        refine nInc (lv' := [(0, .ref 159), (1, .int (nI (x))), (2, .int (nI (y))), (3, .long (lZ (t))), (5, .long (lZ ((w : Int)))), (7, .int (nI (f x))), (8, .int (nI (f y))), (9, .int (nI (k + 1)))]) dX11_addTerm_171 rfl rfl (by decide) rfl ?_
        refine aX_goto (tgt := 131) dX11_addTerm_174 (by decide) ?_
        exact ih (n - (k + 1)) (by omega) (k + 1) (by omega) rfl _ (fun j hj => by
          by_cases e : j = k
          · subst e; rw [aU_s, if_pos hce]
          · rw [aU_n (by omega)]; exact ha j (by omega)) (fun j h1 h2 => by rw [aU_n (by omega)]; exact hb j (by omega) h2) (fun q j g => by rw [aU_n (by omega)]; exact hk q j g)
set_option maxHeartbeats 1000000 in
theorem m_addTerm {I : Nat → Nat → Int32} {L : Nat → Nat → Int64} {R : Nat → Nat → Option Nat} (hR : aRf R) {n : Nat} (hn : I 159 21 = nI n) (hn20 : n ≤ 20) {S : jQt} (hS : rsRep L n S) {f : Nat → Nat} (hf : hgRep I n f) {x y : Nat} (hx : x < n) (hy : y < n) {t u : Int} {w : Nat} (hw : w ≤ 99) : aM mX11_addTerm [.ref 159, .int (nI x), .int (nI y), .long (lZ t), .long (lZ (w : Int))] (sh0, I, L, R) (fun ans h' => ans = none ∧ ∃ I' L', h' = (sh0, I', L', R) ∧ rsRep L' n (jPair S x y (w : Int) t) ∧ hgRep I' n (hRel (x, y, (w : Int), u) f) ∧ (∀ q j, q ≠ 185 → I' q j = I q j) ∧ rqK L L') := by
  refine aM_of plX11_addTerm (Nat.le_of_ble_eq_true rfl) ?_
  refine aX_aload_n dX11_addTerm_0 rfl ?_
  refine aX_get dX11_addTerm_1 lfX11_86 s159 (f159_27 hR) ?_
  refine aX_bipush (v := nI 20) dX11_addTerm_4 (by decide) ?_
  refine aX_iload_n dX11_addTerm_6 rfl ?_
  refine nMul dX11_addTerm_7 ?_
  refine aX_iload_n dX11_addTerm_8 rfl ?_
  refine nAdd dX11_addTerm_9 ?_
  refine aX_dup2_11 dX11_addTerm_10 rfl rfl ?_
  refine nLald (v := lZ (S.1 x x)) dX11_addTerm_11 s182 (by first | omega | exact Nat.lt_of_le_of_lt (Nat.mod_le _ _) (by omega)) (by decide) (hS.1 x x (by omega) (by omega)) ?_
  refine aX_lload dX11_addTerm_12 rfl ?_
  refine yAdd (a := S.1 x x) (b := (w : Int)) dX11_addTerm_14 (rfl) (rfl) ?_
  refine nLast dX11_addTerm_15 s182 (by first | omega | exact Nat.lt_of_le_of_lt (Nat.mod_le _ _) (by omega)) (by decide) ?_
  obtain ⟨L1, hL1⟩ : ∃ lz, lz = (aU L 182 ((20 * x) + x) (lZ ((S.1 x x) + ((w : Int))))) := ⟨_, rfl⟩
  rw [← hL1]
  obtain ⟨S1, hS1⟩ : ∃ lz, lz = jA S x x (S.1 x x + (w : Int)) := ⟨_, rfl⟩
  have r1 : rsRep L1 n S1 := by rw [hL1, hS1]; exact rs_A hS hn20 (by omega) _
  have k1 : rqK L L1 := fun q j g => by rw [hL1, aU_n (by omega)]
  refine aX_aload_n dX11_addTerm_16 rfl ?_
  refine aX_get dX11_addTerm_17 lfX11_86 s159 (f159_27 hR) ?_
  refine aX_bipush (v := nI 20) dX11_addTerm_20 (by decide) ?_
  refine aX_iload_n dX11_addTerm_22 rfl ?_
  refine nMul dX11_addTerm_23 ?_
  refine aX_iload_n dX11_addTerm_24 rfl ?_
  refine nAdd dX11_addTerm_25 ?_
  refine aX_dup2_11 dX11_addTerm_26 rfl rfl ?_
  refine nLald (v := lZ (S1.1 y y)) dX11_addTerm_27 s182 (by first | omega | exact Nat.lt_of_le_of_lt (Nat.mod_le _ _) (by omega)) (by decide) (r1.1 y y (by omega) (by omega)) ?_
  refine aX_lload dX11_addTerm_28 rfl ?_
  refine yAdd (a := S1.1 y y) (b := (w : Int)) dX11_addTerm_30 (rfl) (rfl) ?_
  refine nLast dX11_addTerm_31 s182 (by first | omega | exact Nat.lt_of_le_of_lt (Nat.mod_le _ _) (by omega)) (by decide) ?_
  obtain ⟨L2, hL2⟩ : ∃ lz, lz = (aU L1 182 ((20 * y) + y) (lZ ((S1.1 y y) + ((w : Int))))) := ⟨_, rfl⟩
  rw [← hL2]
  obtain ⟨S2, hS2⟩ : ∃ lz, lz = jA S1 y y (S1.1 y y + (w : Int)) := ⟨_, rfl⟩
  have r2 : rsRep L2 n S2 := by rw [hL2, hS2]; exact rs_A r1 hn20 (by omega) _
  have k2 : rqK L L2 := fun q j g => by rw [hL2, aU_n (by omega)]; exact k1 q j g
  refine aX_aload_n dX11_addTerm_32 rfl ?_
  refine aX_get dX11_addTerm_33 lfX11_86 s159 (f159_27 hR) ?_
  refine aX_bipush (v := nI 20) dX11_addTerm_36 (by decide) ?_
  refine aX_iload_n dX11_addTerm_38 rfl ?_
  refine nMul dX11_addTerm_39 ?_
  refine aX_iload_n dX11_addTerm_40 rfl ?_
  refine nAdd dX11_addTerm_41 ?_
  refine aX_dup2_11 dX11_addTerm_42 rfl rfl ?_
  refine nLald (v := lZ (S2.1 x y)) dX11_addTerm_43 s182 (by first | omega | exact Nat.lt_of_le_of_lt (Nat.mod_le _ _) (by omega)) (by decide) (r2.1 x y (by omega) (by omega)) ?_
  refine aX_lload dX11_addTerm_44 rfl ?_
  refine ySub (a := S2.1 x y) (b := (w : Int)) dX11_addTerm_46 (rfl) (rfl) ?_
  refine nLast dX11_addTerm_47 s182 (by first | omega | exact Nat.lt_of_le_of_lt (Nat.mod_le _ _) (by omega)) (by decide) ?_
  obtain ⟨L3, hL3⟩ : ∃ lz, lz = (aU L2 182 ((20 * x) + y) (lZ ((S2.1 x y) - ((w : Int))))) := ⟨_, rfl⟩
  rw [← hL3]
  obtain ⟨S3, hS3⟩ : ∃ lz, lz = jA S2 x y (S2.1 x y - (w : Int)) := ⟨_, rfl⟩
  have r3 : rsRep L3 n S3 := by rw [hL3, hS3]; exact rs_A r2 hn20 (by omega) _
  have k3 : rqK L L3 := fun q j g => by rw [hL3, aU_n (by omega)]; exact k2 q j g
  refine aX_aload_n dX11_addTerm_48 rfl ?_
  refine aX_get dX11_addTerm_49 lfX11_86 s159 (f159_27 hR) ?_
  refine aX_bipush (v := nI 20) dX11_addTerm_52 (by decide) ?_
  refine aX_iload_n dX11_addTerm_54 rfl ?_
  refine nMul dX11_addTerm_55 ?_
  refine aX_iload_n dX11_addTerm_56 rfl ?_
  refine nAdd dX11_addTerm_57 ?_
  refine aX_dup2_11 dX11_addTerm_58 rfl rfl ?_
  refine nLald (v := lZ (S3.1 y x)) dX11_addTerm_59 s182 (by first | omega | exact Nat.lt_of_le_of_lt (Nat.mod_le _ _) (by omega)) (by decide) (r3.1 y x (by omega) (by omega)) ?_
  refine aX_lload dX11_addTerm_60 rfl ?_
  refine ySub (a := S3.1 y x) (b := (w : Int)) dX11_addTerm_62 (rfl) (rfl) ?_
  refine nLast dX11_addTerm_63 s182 (by first | omega | exact Nat.lt_of_le_of_lt (Nat.mod_le _ _) (by omega)) (by decide) ?_
  obtain ⟨L4, hL4⟩ : ∃ lz, lz = (aU L3 182 ((20 * y) + x) (lZ ((S3.1 y x) - ((w : Int))))) := ⟨_, rfl⟩
  rw [← hL4]
  obtain ⟨S4, hS4⟩ : ∃ lz, lz = jA S3 y x (S3.1 y x - (w : Int)) := ⟨_, rfl⟩
  have r4 : rsRep L4 n S4 := by rw [hL4, hS4]; exact rs_A r3 hn20 (by omega) _
  have k4 : rqK L L4 := fun q j g => by rw [hL4, aU_n (by omega)]; exact k3 q j g
  refine aX_aload_n dX11_addTerm_64 rfl ?_
  refine aX_get dX11_addTerm_65 lfX11_89 s159 (f159_28 hR) ?_
  refine aX_iload_n dX11_addTerm_68 rfl ?_
  refine aX_dup2_11 dX11_addTerm_69 rfl rfl ?_
  refine nLald (v := lZ (S4.2.1 x)) dX11_addTerm_70 s183 (by first | omega | exact Nat.lt_of_le_of_lt (Nat.mod_le _ _) (by omega)) (by decide) (r4.2.1 x (by omega)) ?_
  refine aX_lload dX11_addTerm_71 rfl ?_
  refine aX_lload_n dX11_addTerm_73 rfl ?_
  refine yMul (a := (w : Int)) (b := t) dX11_addTerm_74 (rfl) (rfl) ?_
  refine yAdd (a := S4.2.1 x) (b := ((w : Int)) * t) dX11_addTerm_75 (rfl) (rfl) ?_
  refine nLast dX11_addTerm_76 s183 (by first | omega | exact Nat.lt_of_le_of_lt (Nat.mod_le _ _) (by omega)) (by decide) ?_
  obtain ⟨L5, hL5⟩ : ∃ lz, lz = (aU L4 183 x (lZ ((S4.2.1 x) + (((w : Int)) * t)))) := ⟨_, rfl⟩
  rw [← hL5]
  obtain ⟨S5, hS5⟩ : ∃ lz, lz = jBq S4 x (S4.2.1 x + (w : Int) * t) := ⟨_, rfl⟩
  have r5 : rsRep L5 n S5 := by rw [hL5, hS5]; exact rs_B r4 _
  have k5 : rqK L L5 := fun q j g => by rw [hL5, aU_n (by omega)]; exact k4 q j g
  refine aX_aload_n dX11_addTerm_77 rfl ?_
  refine aX_get dX11_addTerm_78 lfX11_89 s159 (f159_28 hR) ?_
  refine aX_iload_n dX11_addTerm_81 rfl ?_
  refine aX_dup2_11 dX11_addTerm_82 rfl rfl ?_
  refine nLald (v := lZ (S5.2.1 y)) dX11_addTerm_83 s183 (by first | omega | exact Nat.lt_of_le_of_lt (Nat.mod_le _ _) (by omega)) (by decide) (r5.2.1 y (by omega)) ?_
  refine aX_lload dX11_addTerm_84 rfl ?_
  refine aX_lload_n dX11_addTerm_86 rfl ?_
  refine yMul (a := (w : Int)) (b := t) dX11_addTerm_87 (rfl) (rfl) ?_
  refine ySub (a := S5.2.1 y) (b := ((w : Int)) * t) dX11_addTerm_88 (rfl) (rfl) ?_
  refine nLast dX11_addTerm_89 s183 (by first | omega | exact Nat.lt_of_le_of_lt (Nat.mod_le _ _) (by omega)) (by decide) ?_
  obtain ⟨L6, hL6⟩ : ∃ lz, lz = (aU L5 183 y (lZ ((S5.2.1 y) - (((w : Int)) * t)))) := ⟨_, rfl⟩
  rw [← hL6]
  obtain ⟨S6, hS6⟩ : ∃ lz, lz = jBq S5 y (S5.2.1 y - (w : Int) * t) := ⟨_, rfl⟩
  have r6 : rsRep L6 n S6 := by rw [hL6, hS6]; exact rs_B r5 _
  have k6 : rqK L L6 := fun q j g => by rw [hL6, aU_n (by omega)]; exact k5 q j g
  refine aX_aload_n dX11_addTerm_90 rfl ?_
  refine aX_dup dX11_addTerm_91 rfl ?_
  refine aX_get (v := .long (lZ (S6.2.2))) dX11_addTerm_92 lfX11_209 s159 (congrArg Value.long (r6.2.2)) ?_
  refine aX_lload dX11_addTerm_95 rfl ?_
  refine aX_lload_n dX11_addTerm_97 rfl ?_
  refine yMul (a := (w : Int)) (b := t) dX11_addTerm_98 (rfl) (rfl) ?_
  refine aX_lload_n dX11_addTerm_99 rfl ?_
  refine yMul (a := ((w : Int)) * t) (b := t) dX11_addTerm_100 (rfl) (rfl) ?_
  refine yAdd (a := S6.2.2) (b := (((w : Int)) * t) * t) dX11_addTerm_101 (rfl) (rfl) ?_
  refine pL dX11_addTerm_102 lfX11_209 (fun _ _ _ hq => by cases hq; exact Or.inl rfl) s159 rfl ?_
  obtain ⟨L7, hL7⟩ : ∃ lz, lz = (aU L6 159 33 (lZ (S6.2.2 + ((((w : Int)) * t) * t)))) := ⟨_, rfl⟩
  rw [← hL7]
  obtain ⟨S7, hS7⟩ : ∃ lz, lz = jCq S6 (S6.2.2 + (w : Int) * t * t) := ⟨_, rfl⟩
  have r7 : rsRep L7 n S7 := by rw [hL7, hS7]; exact rs_C r6 _
  have k7 : rqK L L7 := fun q j g => by rw [hL7, aU_n (by omega)]; exact k6 q j g
  refine aX_lload dX11_addTerm_105 rfl ?_
  refine aX_lconst (v := lN 0) dX11_addTerm_107 rfl ?_
  refine aX_lcmp dX11_addTerm_108 ?_
  refine lIf_le (tgt := 177) dX11_addTerm_109 (by decide) (fun c1 => ?_) (fun c1 => ?_)
  · have hS7e : S7 = jPair S x y (w : Int) t := by rw [hS7, hS6, hS5, hS4, hS3, hS2, hS1]; rfl
    have hz := c1
    rw [show (lN 0 : Int64) = lZ 0 from rfl, lZ_le (by omega) (by omega) (by decide) (by decide)] at hz
    exact rV dX11_addTerm_177 rfl (⟨rfl, I, L7, rfl, by rw [← hS7e]; exact r7, by unfold hRel; rw [if_neg (show ¬ 0 < (w : Int) by omega)]; exact hf, fun _ _ _ => rfl, k7⟩)
  · have hS7e : S7 = jPair S x y (w : Int) t := by rw [hS7, hS6, hS5, hS4, hS3, hS2, hS1]; rfl
    have hz := c1
    rw [show (lN 0 : Int64) = lZ 0 from rfl, lZ_le (by omega) (by omega) (by decide) (by decide)] at hz
    refine aX_aload_n dX11_addTerm_112 rfl ?_
    refine aX_get dX11_addTerm_113 lfX11_95 s159 (f159_30 hR) ?_
    refine aX_iload_n dX11_addTerm_116 rfl ?_
    refine nIald (v := nI (f x)) dX11_addTerm_117 s185 (by first | omega | exact Nat.lt_of_le_of_lt (Nat.mod_le _ _) (by omega)) (by decide) ((hf x (by omega)).1) ?_
    refine aX_istore (lv' := [(0, .ref 159), (1, .int (nI (x))), (2, .int (nI (y))), (3, .long (lZ (t))), (5, .long (lZ ((w : Int)))), (7, .int (nI (f x)))]) dX11_addTerm_118 (by decide) rfl ?_
    refine aX_aload_n dX11_addTerm_120 rfl ?_
    refine aX_get dX11_addTerm_121 lfX11_95 s159 (f159_30 hR) ?_
    refine aX_iload_n dX11_addTerm_124 rfl ?_
    refine nIald (v := nI (f y)) dX11_addTerm_125 s185 (by first | omega | exact Nat.lt_of_le_of_lt (Nat.mod_le _ _) (by omega)) (by decide) ((hf y (by omega)).1) ?_
    refine aX_istore (lv' := [(0, .ref 159), (1, .int (nI (x))), (2, .int (nI (y))), (3, .long (lZ (t))), (5, .long (lZ ((w : Int)))), (7, .int (nI (f x))), (8, .int (nI (f y)))]) dX11_addTerm_126 (by decide) rfl ?_
    refine aX_iconst (v := nI 0) dX11_addTerm_128 (by decide) ?_
    refine aX_istore (lv' := [(0, .ref 159), (1, .int (nI (x))), (2, .int (nI (y))), (3, .long (lZ (t))), (5, .long (lZ ((w : Int)))), (7, .int (nI (f x))), (8, .int (nI (f y))), (9, .int (nI (0)))]) dX11_addTerm_129 (by decide) rfl ?_
    refine aX_mono (ml_atm hR hn hn20 (S9 := S7) r7 k7 hf hx hy (t := t) (u := u) (w := w) (by omega) _ 0 (by omega) rfl I (fun j h => by omega) (fun j _ h => (hf j h).1) (fun _ _ _ => rfl)) (fun ans5 h5 hq5 => ?_)
    rw [hS7e] at hq5
    exact hq5
