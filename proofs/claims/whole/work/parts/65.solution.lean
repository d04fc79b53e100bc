/-! THE SOLUTION -/
abbrev jT (s : jN) (r : jR) (ch : Nat → Nat) (w : jW) : List Tm := jTs s r ch w (jS s).length
abbrev jE (s : jN) : List Nat := jEs s (jS s).length
theorem jT_in {s : jN} {r : jR} (hr : rOk r) (hg : rGood r) {ch : Nat → Nat} {w : jW} (hw : wOk w) : tIn (jVn s) (jT s r ch w) (jE s) :=
  ⟨fun τ ht => (jTs_in hr hg hw _ (Nat.le_refl _) τ ht).1, fun x hx => jEs_in _ (Nat.le_refl _) x hx⟩
noncomputable def zA (s : jN) (r : jR) (ch : Nat → Nat) (w : jW) : Mx := if w 4 = 0 then hA (jT s r ch w) (jVn s) (tA (jT s r ch w) (jE s) 0) else tA (jT s r ch w) (jE s) (w 4 : Int)
noncomputable def zB (s : jN) (r : jR) (ch : Nat → Nat) (w : jW) : Nat → Int := if w 4 = 0 then hB (jT s r ch w) (jVn s) (tB (jT s r ch w)) else tB (jT s r ch w)
noncomputable def zD (s : jN) (r : jR) (ch : Nat → Nat) (w : jW) : Int := dt (jVn s) (zA s r ch w)
noncomputable def zN (s : jN) (r : jR) (ch : Nat → Nat) (w : jW) (i : Nat) : Int := nm (jVn s) (zA s r ch w) (zB s r ch w) i
noncomputable def zW (s : jN) (r : jR) (ch : Nat → Nat) (w : jW) : Int := tC (jT s r ch w) * zD s r ch w - sm (jVn s) (fun i => zB s r ch w i * zN s r ch w i)
theorem zA_sym {s : jN} {r : jR} {ch : Nat → Nat} {w : jW} : isSym (jVn s) (zA s r ch w) := by
  unfold zA
  by_cases e : w 4 = 0
  · rw [if_pos e]; exact hA_sym (fun i j _ _ => tA_sym _ _ _ i j)
  · rw [if_neg e]; exact fun i j _ _ => tA_sym _ _ _ i j
theorem zA_pd {s : jN} {r : jR} (hr : rOk r) (hg : rGood r) {ch : Nat → Nat} {w : jW} (hw : wOk w) : isPD (jVn s) (zA s r ch w) := by
  unfold zA
  by_cases e : w 4 = 0
  · rw [if_pos e]; exact pd_hA (jT_in hr hg hw)
  · rw [if_neg e]; exact pd_tA (jT_in hr hg hw) (by omega) (fun i hi => jEs_all hi)
theorem zD_pos {s : jN} {r : jR} (hr : rOk r) (hg : rGood r) {ch : Nat → Nat} {w : jW} (hw : wOk w) : 0 < zD s r ch w := (dt_pos _ _ zA_sym (zA_pd hr hg hw)).1
theorem z_trace {s : jN} (h6 : jSix s) {r : jR} (hr : rOk r) (hg : rGood r) {ch : Nat → Nat} {w : jW} (hw : wOk w) {e : Int} (he : e ≤ 99) : sm (jVn s) (fun i => tA (jT s r ch w) (jE s) e i i) ≤ 147312 := by
  have h1 := trace_le (e := e) (w := 99) (jT_in (s := s) (ch := ch) hr hg hw) (fun τ ht => (jTs_in hr hg hw _ (Nat.le_refl _) τ ht).2.1) he
  have h2 := jTs_len h6 r ch w (jS s).length
  have h3 := jEs_len h6 (jS s).length
  have h4 := jS_len s
  generalize (jTs s r ch w (jS s).length).length = a at *
  generalize (jEs s (jS s).length).length = b at *
  omega
theorem zA_diag {s : jN} (h6 : jSix s) {r : jR} (hr : rOk r) (hg : rGood r) {ch : Nat → Nat} {w : jW} (hw : wOk w) (hn : jVn s ≤ 20) : sm (jVn s) (fun i => zA s r ch w i i) ≤ 147332 := by
  have hw4 := hw.2 4 (by decide) (by decide)
  unfold zA
  by_cases e : w 4 = 0
  · rw [if_pos e]
    have h1 : sm (jVn s) (fun i => hA (jT s r ch w) (jVn s) (tA (jT s r ch w) (jE s) 0) i i) ≤ sm (jVn s) (fun i => tA (jT s r ch w) (jE s) 0 i i + 1) := by
      refine sm_le (fun i hi => ?_)
      have := tA_diag_nn (e := 0) (jT_in (s := s) (ch := ch) hr hg hw) (Int.le_refl 0) i
      unfold hA
      by_cases g : Ls (jT s r ch w) (jVn s) i ∨ Ls (jT s r ch w) (jVn s) i
      · rw [if_pos g]; unfold dl1; rw [if_pos rfl]; omega
      · rw [if_neg g]; omega
    rw [sm_add] at h1
    have h2 := z_trace h6 hr hg (ch := ch) hw (e := 0) (by decide)
    have h3 : sm (jVn s) (fun _ => 1) = (jVn s : Int) := by
      have := sm_smn (n := jVn s) (f := fun _ => 1) (g := fun _ => 1) (fun _ _ => rfl)
      rw [this]
      have h4 : ∀ n, smn n (fun _ => 1) = n := fun n => by
        induction n with
        | zero => rfl
        | succ n ih => show smn n _ + 1 = n + 1; rw [ih]
      rw [h4]
    rw [h3] at h1
    omega
  · rw [if_neg e]
    have := z_trace h6 hr hg (ch := ch) hw (e := (w 4 : Int)) (by omega)
    omega
theorem zD_lt {s : jN} (h6 : jSix s) {r : jR} (hr : rOk r) (hg : rGood r) {ch : Nat → Nat} {w : jW} (hw : wOk w) (hn : jVn s ≤ 20) : zD s r ch w < 2 ^ 264 := by
  have h1 := (dt_pos _ _ (zA_sym (ch := ch)) (zA_pd (s := s) hr hg hw)).2
  have h2 := pr_diag hn (fun i hi => Int.le_of_lt (pd_diag (zA_pd (ch := ch) hr hg hw) hi)) (zA_diag h6 hr hg (ch := ch) hw hn)
  exact Int.lt_of_le_of_lt h1 h2
theorem z_row {s : jN} {r : jR} (hr : rOk r) (hg : rGood r) {ch : Nat → Nat} {w : jW} (hw : wOk w) {i : Nat} (hi : i < jVn s) : sm (jVn s) (fun j => ((zA s r ch w i j).natAbs : Int)) ≤ 2 * zA s r ch w i i := by
  unfold zA
  by_cases e : w 4 = 0
  · rw [if_pos e]
    by_cases g : Ls (jT s r ch w) (jVn s) i
    · have h1 : ∀ j, hA (jT s r ch w) (jVn s) (tA (jT s r ch w) (jE s) 0) i j = dl1 i j := fun j => by unfold hA; rw [if_pos (Or.inl g)]
      have h2 : sm (jVn s) (fun j => ((hA (jT s r ch w) (jVn s) (tA (jT s r ch w) (jE s) 0) i j).natAbs : Int)) = sm (jVn s) (fun j => dl1 i j) := sm_ext (fun j _ => by
        rw [h1]; have := dl1_nn i j; omega)
      rw [h2, h1, sm_dl1c hi]; unfold dl1; rw [if_pos rfl]; decide
    · have h1 : sm (jVn s) (fun j => ((hA (jT s r ch w) (jVn s) (tA (jT s r ch w) (jE s) 0) i j).natAbs : Int)) ≤ sm (jVn s) (fun j => ((tA (jT s r ch w) (jE s) 0 i j).natAbs : Int)) := by
        refine sm_le (fun j hj => ?_)
        unfold hA
        by_cases g2 : Ls (jT s r ch w) (jVn s) j
        · rw [if_pos (Or.inr g2)]; unfold dl1
          rw [if_neg (fun q : i = j => g (by rw [q]; exact g2))]
          omega
        · rw [if_neg (fun q => q.elim g g2)]; omega
      have h2 := row_le (e := 0) (jT_in (s := s) (ch := ch) hr hg hw) (Int.le_refl 0) i
      have h3 : hA (jT s r ch w) (jVn s) (tA (jT s r ch w) (jE s) 0) i i = tA (jT s r ch w) (jE s) 0 i i := by unfold hA; rw [if_neg (fun q => q.elim g g)]
      rw [h3]; omega
  · rw [if_neg e]
    exact row_le (jT_in hr hg hw) (by omega) i
theorem z_len {s : jN} (h6 : jSix s) (r : jR) (ch : Nat → Nat) (w : jW) : (jT s r ch w).length ≤ 651 := by
  have h2 := jTs_len h6 r ch w (jS s).length
  have h4 := jS_len s
  show (jTs s r ch w (jS s).length).length ≤ 651
  omega
theorem z_b {s : jN} (h6 : jSix s) {r : jR} (hr : rOk r) (hg : rGood r) {ch : Nat → Nat} {w : jW} (hw : wOk w) : sm (jVn s) (fun j => ((tB (jT s r ch w) j).natAbs : Int)) ≤ 60603623680 := by
  have h1 := b_le (w := 99) (m := 470160) (jT_in (s := s) (ch := ch) hr hg hw) (fun τ ht => (jTs_in hr hg hw _ (Nat.le_refl _) τ ht).2) (by decide)
  have h2 := z_len h6 r ch w
  generalize (jTs s r ch w (jS s).length).length = a at *
  omega
theorem z_b' {s : jN} (h6 : jSix s) {r : jR} (hr : rOk r) (hg : rGood r) {ch : Nat → Nat} {w : jW} (hw : wOk w) : sm (jVn s) (fun j => ((zB s r ch w j).natAbs : Int)) ≤ 60603623680 := by
  refine Int.le_trans (sm_le (fun j hj => ?_)) (z_b h6 hr hg (ch := ch) hw)
  unfold zB
  by_cases e : w 4 = 0
  · rw [if_pos e]; unfold hB
    by_cases g : Ls (jT s r ch w) (jVn s) j
    · rw [if_pos g]; omega
    · rw [if_neg g]; omega
  · rw [if_neg e]; omega
theorem z_c {s : jN} (h6 : jSix s) {r : jR} (hr : rOk r) (hg : rGood r) {ch : Nat → Nat} {w : jW} (hw : wOk w) : 0 ≤ tC (jT s r ch w) ∧ tC (jT s r ch w) ≤ 14246478879494400 := by
  have h1 := c_le (w := 99) (m := 470160) (jT_in (s := s) (ch := ch) hr hg hw) (fun τ ht => (jTs_in hr hg hw _ (Nat.le_refl _) τ ht).2) (by decide)
  have h2 := z_len h6 r ch w
  generalize (jTs s r ch w (jS s).length).length = a at *
  omega
theorem zN_lt {s : jN} (h6 : jSix s) {r : jR} (hr : rOk r) (hg : rGood r) {ch : Nat → Nat} {w : jW} (hw : wOk w) (hn : jVn s ≤ 20) {i : Nat} (hi : i < jVn s) : ((zN s r ch w i).natAbs : Int) < 2 ^ 328 := by
  have h1 := nm_le (n := jVn s) (A := zA s r ch w) (b := zB s r ch w) (fun i hi => pd_diag (zA_pd hr hg hw) hi) (fun i hi => z_row hr hg hw hi) (z_b' h6 hr hg hw) hi
  have h2 := pr_diag hn (fun i hi => Int.le_of_lt (pd_diag (zA_pd (ch := ch) hr hg hw) hi)) (zA_diag h6 hr hg (ch := ch) hw hn)
  have h3 : (2 : Int) ^ jVn s ≤ 2 ^ 20 := by
    have : (2 : Nat) ^ jVn s ≤ 2 ^ 20 := Nat.pow_le_pow_right (by decide) hn
    have h := Int.ofNat_le.mpr this
    rw [Int.natCast_pow, Int.natCast_pow] at h; exact h
  have h0 : 0 ≤ pr (jVn s) (fun i => zA s r ch w i i) := pr_nn (fun i hi => Int.le_of_lt (pd_diag (zA_pd (ch := ch) hr hg hw) hi))
  have h4 : (2 : Int) ^ jVn s * pr (jVn s) (fun i => zA s r ch w i i) ≤ 2 ^ 20 * 2 ^ 264 := Int.mul_le_mul h3 (Int.le_of_lt h2) h0 (by decide)
  have h5 := Int.mul_le_mul_of_nonneg_left h4 (show (0 : Int) ≤ 60603623680 by decide)
  refine Int.lt_of_le_of_lt h1 (Int.lt_of_le_of_lt h5 ?_)
  decide +kernel
theorem zN_solves {s : jN} {r : jR} (hr : rOk r) (hg : rGood r) {ch : Nat → Nat} {w : jW} (hw : wOk w) {i : Nat} (hi : i < jVn s) : mv (jVn s) (zA s r ch w) (zN s r ch w) i = zD s r ch w * zB s r ch w i := nm_solves zA_sym (zA_pd hr hg hw) _ hi
theorem zN_held {s : jN} {r : jR} (hr : rOk r) (hg : rGood r) {ch : Nat → Nat} {w : jW} (hw : wOk w) (h4 : w 4 = 0) {l : Nat} (hl : Ls (jT s r ch w) (jVn s) l) : zN s r ch w l = 0 := by
  have h := fun i (hi : i < jVn s) => zN_solves (ch := ch) hr hg hw hi
  unfold zA zB at h
  rw [if_pos h4, if_pos h4] at h
  exact held_0 h hl
theorem zN_all {s : jN} {r : jR} (hr : rOk r) (hg : rGood r) {ch : Nat → Nat} {w : jW} (hw : wOk w) {i : Nat} (hi : i < jVn s) : mv (jVn s) (tA (jT s r ch w) (jE s) (w 4 : Int)) (zN s r ch w) i = zD s r ch w * tB (jT s r ch w) i := by
  have h := fun i (hi : i < jVn s) => zN_solves (ch := ch) hr hg hw hi
  unfold zA zB at h
  by_cases e : w 4 = 0
  · rw [if_pos e, if_pos e] at h
    rw [e]
    exact held_all (jT_in hr hg hw) (fun i hi hn => held_row h hi hn) hi
  · rw [if_neg e, if_neg e] at h
    exact h i hi
theorem zW_eq {s : jN} {r : jR} (hr : rOk r) (hg : rGood r) {ch : Nat → Nat} {w : jW} (hw : wOk w) : zW s r ch w = tC (jT s r ch w) * zD s r ch w - sm (jVn s) (fun i => tB (jT s r ch w) i * zN s r ch w i) := by
  unfold zW
  congr 1
  unfold zB
  by_cases e : w 4 = 0
  · rw [if_pos e]; exact (held_b (fun l hl => zN_held hr hg hw e hl)).symm
  · rw [if_neg e]
theorem zW_in {s : jN} (h6 : jSix s) {r : jR} (hr : rOk r) (hg : rGood r) {ch : Nat → Nat} {w : jW} (hw : wOk w) (hn : jVn s ≤ 20) : 0 ≤ zW s r ch w ∧ ((zW s r ch w).natAbs : Int) < 2 ^ 328 := by
  have hT := jT_in (s := s) (ch := ch) hr hg hw
  have hD := zD_pos (s := s) (ch := ch) hr hg hw
  have h := en_bound (e := (w 4 : Int)) (D := zD s r ch w) (N := zN s r ch w) (b' := zB s r ch w) (A' := zA s r ch w) hT (by omega) hD (pd_nn (zA_pd hr hg hw) _) (fun i hi => zN_solves hr hg hw hi) (by
    unfold zA
    by_cases e : w 4 = 0
    · rw [if_pos e, e]; exact held_qf (fun l hl => zN_held hr hg hw e hl)
    · rw [if_neg e]) (by
    unfold zB
    by_cases e : w 4 = 0
    · rw [if_pos e]; exact held_b (fun l hl => zN_held hr hg hw e hl)
    · rw [if_neg e])
  have hc := z_c h6 hr hg (ch := ch) hw
  have hl := zD_lt h6 hr hg (ch := ch) hw hn
  have h2 : 0 ≤ zW s r ch w ∧ zW s r ch w ≤ tC (jT s r ch w) * zD s r ch w := h
  have h3 : tC (jT s r ch w) * zD s r ch w ≤ 14246478879494400 * 2 ^ 264 := Int.mul_le_mul hc.2 (Int.le_of_lt hl) (Int.le_of_lt hD) (by decide)
  refine ⟨h2.1, ?_⟩
  rw [show ((zW s r ch w).natAbs : Int) = zW s r ch w by omega]
  refine Int.lt_of_le_of_lt h2.2 (Int.lt_of_le_of_lt h3 ?_)
  decide +kernel
/-- the class's squares are these -/
theorem gath_A (s : jN) (r : jR) (ch : Nat → Nat) (w : jW) : (jGath s r ch w (jS s).length).1 = tA (jT s r ch w) (jE s) (w 4 : Int) := by
  funext i j; exact (sEq_gath s r ch w (jS s).length).1 i j
theorem jFx_at (S : jQt) (n : Nat) (l : Nat → Nat) : ∀ m, m ≤ n → (∀ i j, i < n → j < n → (jFx S n l m).1 i j = if (i < m ∧ l i = i) ∨ (j < m ∧ l j = j) then dl1 i j else S.1 i j) ∧ (∀ i, i < n → (jFx S n l m).2.1 i = if i < m ∧ l i = i then 0 else S.2.1 i) ∧ (jFx S n l m).2.2 = S.2.2
  | 0, _ => ⟨fun i j _ _ => by rw [if_neg (by omega)]; rfl, fun i _ => by rw [if_neg (by omega)]; rfl, rfl⟩
  | m + 1, hm => by
    obtain ⟨h1, h2, h3⟩ := jFx_at S n l m (by omega)
    by_cases e : l m = m
    · have es : jFx S n l (m + 1) = jFix (jFx S n l m) n m := if_pos e
      rw [es]
      refine ⟨fun i j hi hj => ?_, fun i hi => ?_, h3⟩
      · show aU (jFixM (jFx S n l m).1 m n) m m 1 i j = _
        by_cases g : i = m ∧ j = m
        · obtain ⟨rfl, rfl⟩ := g
          rw [aU_s, if_pos (Or.inl ⟨by omega, e⟩)]; unfold dl1; rw [if_pos rfl]
        · rw [aU_n g]
          unfold jFixM
          by_cases g2 : (i = m ∧ j < n) ∨ (j = m ∧ i < n)
          · rw [if_pos g2, if_pos (by
              rcases g2 with q | q
              · exact Or.inl ⟨by omega, by rw [q.1]; exact e⟩
              · exact Or.inr ⟨by omega, by rw [q.1]; exact e⟩)]
            unfold dl1; rw [if_neg (by omega)]
          · rw [if_neg g2, h1 i j hi hj]
            by_cases g3 : (i < m ∧ l i = i) ∨ (j < m ∧ l j = j)
            · rw [if_pos g3, if_pos (by omega)]
            · rw [if_neg g3, if_neg (by omega)]
      · show va_up (jFx S n l m).2.1 m 0 i = _
        by_cases g : i = m
        · subst g; rw [if_pos ⟨by omega, e⟩]; simp [va_up]
        · rw [show va_up (jFx S n l m).2.1 m 0 i = (jFx S n l m).2.1 i by simp [va_up, g], h2 i hi]
          by_cases g3 : i < m ∧ l i = i
          · rw [if_pos g3, if_pos (by omega)]
          · rw [if_neg g3, if_neg (by omega)]
    · have es : jFx S n l (m + 1) = jFx S n l m := if_neg e
      rw [es]
      refine ⟨fun i j hi hj => ?_, fun i hi => ?_, h3⟩
      · rw [h1 i j hi hj]
        by_cases g3 : (i < m ∧ l i = i) ∨ (j < m ∧ l j = j)
        · rw [if_pos g3, if_pos (by omega)]
        · rw [if_neg g3, if_neg (fun q => g3 (by
            rcases q with q | q
            · exact Or.inl ⟨by have : i ≠ m := fun z => e (by rw [← z]; exact q.2); omega, q.2⟩
            · exact Or.inr ⟨by have : j ≠ m := fun z => e (by rw [← z]; exact q.2); omega, q.2⟩))]
      · rw [h2 i hi]
        by_cases g3 : i < m ∧ l i = i
        · rw [if_pos g3, if_pos (by omega)]
        · rw [if_neg g3, if_neg (fun q => g3 ⟨by have : i ≠ m := fun z => e (by rw [← z]; exact q.2); omega, q.2⟩)]
theorem sq1_eq {s : jN} {r : jR} (hr : rOk r) (hg : rGood r) {ch : Nat → Nat} {w : jW} (hw : wOk w) : (∀ i j, i < jVn s → j < jVn s → (jSq1 s r ch w).1 i j = zA s r ch w i j) ∧ (∀ i, i < jVn s → (jSq1 s r ch w).2.1 i = zB s r ch w i) ∧ (jSq1 s r ch w).2.2 = tC (jT s r ch w) := by
  have hS := sEq_gath s r ch w (jS s).length
  unfold jSq1 zA zB
  by_cases e : w 4 = 0
  · rw [if_pos e, if_pos e, if_pos e]
    have hA0 : (jGath s r ch w (jS s).length).1 = tA (jT s r ch w) (jE s) 0 := by rw [gath_A, e]; rfl
    have hT := jT_in (s := s) (ch := ch) hr hg hw
    obtain ⟨h1, h2, h3⟩ := jFx_at (jGath s r ch w (jS s).length) (jVn s) (jLa (jGath s r ch w (jS s).length).1 (jVn s)) (jVn s) (Nat.le_refl _)
    refine ⟨fun i j hi hj => ?_, fun i hi => ?_, by rw [h3]; exact hS.2.2⟩
    · rw [h1 i j hi hj, hA0]
      unfold hA
      have a1 := jLa_Ls hT hi
      have a2 := jLa_Ls hT hj
      by_cases g : Ls (jT s r ch w) (jVn s) i ∨ Ls (jT s r ch w) (jVn s) j
      · rw [if_pos g, if_pos (by
          rcases g with q | q
          · exact Or.inl ⟨hi, a1.mpr q⟩
          · exact Or.inr ⟨hj, a2.mpr q⟩)]
      · rw [if_neg g, if_neg (fun q => g (by
          rcases q with q | q
          · exact Or.inl (a1.mp q.2)
          · exact Or.inr (a2.mp q.2)))]
    · rw [h2 i hi, hA0]
      unfold hB
      have a1 := jLa_Ls hT hi
      by_cases g : Ls (jT s r ch w) (jVn s) i
      · rw [if_pos g, if_pos ⟨hi, a1.mpr g⟩]
      · rw [if_neg g, if_neg (fun q => g (a1.mp q.2))]; exact hS.2.1 i
  · rw [if_neg e, if_neg e, if_neg e]
    exact ⟨fun i j _ _ => hS.1 i j, fun i _ => hS.2.1 i, hS.2.2⟩
theorem abs_in_sum {n : Nat} {f : Nat → Int} {B : Int} (h : sm n (fun j => ((f j).natAbs : Int)) ≤ B) {i : Nat} (hi : i < n) : -B ≤ f i ∧ f i ≤ B := by
  have : ((f i).natAbs : Int) ≤ sm n (fun j => ((f j).natAbs : Int)) := by
    have h1 : sm n (fun j => if j = i then ((f i).natAbs : Int) else 0) ≤ sm n (fun j => ((f j).natAbs : Int)) := sm_le (fun j _ => by
      by_cases e : j = i
      · rw [if_pos e, e]; omega
      · rw [if_neg e]; omega)
    rw [sm_one hi (fun j _ hn => by rw [if_neg hn]), if_pos rfl] at h1
    exact h1
  omega
theorem diag_le_trace {n : Nat} {f : Nat → Int} {B : Int} (h0 : ∀ i, i < n → 0 ≤ f i) (h : sm n f ≤ B) {i : Nat} (hi : i < n) : f i ≤ B := by
  have h1 : sm n (fun j => if j = i then f i else 0) ≤ sm n f := sm_le (fun j hj => by
    by_cases e : j = i
    · rw [if_pos e, e]; omega
    · rw [if_neg e]; exact h0 j hj)
  rw [sm_one hi (fun j _ hn => by rw [if_neg hn]), if_pos rfl] at h1
  omega
theorem gath_bd {s : jN} (h6 : jSix s) {r : jR} (hr : rOk r) (hg : rGood r) {ch : Nat → Nat} {w : jW} (hw : wOk w) : ∀ i j, i < jVn s → j < jVn s → -9223372036854775808 ≤ (jGath s r ch w (jS s).length).1 i j ∧ (jGath s r ch w (jS s).length).1 i j < 9223372036854775808 := by
  intro i j hi hj
  have hw4 := hw.2 4 (by decide) (by decide)
  have hT := jT_in (s := s) (ch := ch) hr hg hw
  rw [gath_A]
  have h1 := row_le (e := (w 4 : Int)) hT (by omega) i
  have h2 := diag_le_trace (fun i _ => tA_diag_nn (e := (w 4 : Int)) hT (by omega) i) (z_trace h6 hr hg (ch := ch) hw (e := (w 4 : Int)) (by omega)) hi
  have h3 := abs_in_sum (f := fun j => tA (jT s r ch w) (jE s) (w 4 : Int) i j) (Int.le_trans h1 (Int.mul_le_mul_of_nonneg_left h2 (by decide))) hj
  have h4 : -(2 * 147312) ≤ tA (jT s r ch w) (jE s) (w 4 : Int) i j ∧ tA (jT s r ch w) (jE s) (w 4 : Int) i j ≤ 2 * 147312 := h3
  omega
theorem sq1_bd {s : jN} (h6 : jSix s) {r : jR} (hr : rOk r) (hg : rGood r) {ch : Nat → Nat} {w : jW} (hw : wOk w) (hn : jVn s ≤ 20) : sBd (jSq1 s r ch w) (jVn s) := by
  obtain ⟨e1, e2, e3⟩ := sq1_eq (s := s) (ch := ch) hr hg hw
  refine ⟨fun i j hi hj => ?_, fun i hi => ?_, ?_⟩
  · rw [e1 i j hi hj]
    have h1 := z_row (ch := ch) hr hg hw hi
    have h2 := diag_le_trace (fun i hi => Int.le_of_lt (pd_diag (zA_pd (ch := ch) hr hg hw) hi)) (zA_diag h6 hr hg (ch := ch) hw hn) hi
    have h3 := abs_in_sum (f := fun j => zA s r ch w i j) (Int.le_trans h1 (Int.mul_le_mul_of_nonneg_left h2 (by decide))) hj
    have h4 : -(2 * 147332) ≤ zA s r ch w i j ∧ zA s r ch w i j ≤ 2 * 147332 := h3
    omega
  · rw [e2 i hi]
    have := abs_in_sum (z_b' h6 hr hg (ch := ch) hw) hi
    omega
  · rw [e3]
    have := z_c h6 hr hg (ch := ch) hw
    omega
/-- the whole run -/
noncomputable def zX (s : jN) (r : jR) (ch : Nat → Nat) (w : jW) (i : Nat) : Int := if i < jVn s then zN s r ch w i else - zD s r ch w
theorem sq1_D {s : jN} {r : jR} (hr : rOk r) (hg : rGood r) {ch : Nat → Nat} {w : jW} (hw : wOk w) : dt (jVn s) (jSq1 s r ch w).1 = zD s r ch w := dt_ext _ (fun i j hi hj => (sq1_eq hr hg hw).1 i j hi hj)
theorem zX_ker {s : jN} {r : jR} (hr : rOk r) (hg : rGood r) {ch : Nat → Nat} {w : jW} (hw : wOk w) : ∀ i, i < jVn s → sm (jVn s) (fun j => (jSq1 s r ch w).1 i j * zX s r ch w j) + (jSq1 s r ch w).2.1 i * zX s r ch w (jVn s) = 0 := by
  intro i hi
  obtain ⟨e1, e2, e3⟩ := sq1_eq (s := s) (ch := ch) hr hg hw
  have h1 : sm (jVn s) (fun j => (jSq1 s r ch w).1 i j * zX s r ch w j) = mv (jVn s) (zA s r ch w) (zN s r ch w) i := sm_ext (fun j hj => by rw [e1 i j hi hj]; unfold zX; rw [if_pos hj])
  rw [h1, zN_solves hr hg hw hi, e2 i hi]
  unfold zX
  rw [if_neg (Nat.lt_irrefl _)]
  grind
theorem zX_n (s : jN) (r : jR) (ch : Nat → Nat) (w : jW) : zX s r ch w (jVn s) = - zD s r ch w := if_neg (Nat.lt_irrefl _)
theorem sq1_Y {s : jN} {r : jR} (hr : rOk r) (hg : rGood r) {ch : Nat → Nat} {w : jW} (hw : wOk w) {a : Nat} (ha : a < jVn s ∨ a = 20 ∨ a = 21) (hn : jVn s ≤ 20) : yU (jVn s) (zX s r ch w) (dt (jVn s) (jSq1 s r ch w).1) ((jSq1 s r ch w).2.2 * dt (jVn s) (jSq1 s r ch w).1 - sm (jVn s) (fun i => (jSq1 s r ch w).2.1 i * zX s r ch w i)) a = (if a < jVn s then zN s r ch w a else if a = 20 then zD s r ch w else zW s r ch w) := by
  obtain ⟨e1, e2, e3⟩ := sq1_eq (s := s) (ch := ch) hr hg hw
  unfold yU
  by_cases g : a < jVn s
  · rw [if_pos g, if_pos g]; unfold zX; rw [if_pos g]
  · rw [if_neg g, if_neg g, sq1_D hr hg hw]
    by_cases g2 : a = 20
    · rw [if_pos g2, if_pos g2]
    · rw [if_neg g2, if_neg g2, e3]
      unfold zW
      congr 1
      exact sm_ext (fun i hi => by rw [e2 i hi]; unfold zX; rw [if_pos hi])
