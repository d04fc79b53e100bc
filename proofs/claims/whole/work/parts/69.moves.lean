/-! MOVES ARE SMALL -/
theorem gap_le {T : List Tm} {n : Nat} {u : Nat → Int} {G : Int} (hG : 0 ≤ G) (hT : ∀ τ, τ ∈ T → τ.1 < n ∧ τ.2.1 < n) (he : ∀ τ, τ ∈ T → 0 < τ.2.2.1 → u τ.1 - u τ.2.1 ≤ G ∧ u τ.2.1 - u τ.1 ≤ G) {i l : Nat} (hl : l < n) (hc : Cn T i l) : u i - u l ≤ (n : Int) * G := by
  refine Int.not_lt.mp (fun hbig => ?_)
  have hex : ∀ k : Nat, k < n → ∃ x, x < n ∧ u l + k * G < u x ∧ u x ≤ u l + (k + 1 : Nat) * G := by
    intro k hk
    refine Classical.byContradiction (fun hno => ?_)
    have hkn : (k : Int) * G ≤ (n : Int) * G := Int.mul_le_mul_of_nonneg_right (by omega) hG
    have hk0 : 0 ≤ (k : Int) * G := Int.mul_nonneg (by omega) hG
    have e1 : ((k + 1 : Nat) : Int) * G = (k : Int) * G + G := by push_cast; rw [Int.add_mul, Int.one_mul]
    have := hc (fun j => if u l + k * G < u j then 1 else 0) (fun τ ht hw => by
      obtain ⟨a, b⟩ := he τ ht hw
      obtain ⟨t1, t2⟩ := hT τ ht
      show (if u l + k * G < u τ.1 then (1 : Int) else 0) = if u l + k * G < u τ.2.1 then 1 else 0
      by_cases p : u l + k * G < u τ.1 <;> by_cases q : u l + k * G < u τ.2.1
      · rw [if_pos p, if_pos q]
      · exact absurd ⟨τ.1, t1, p, by rw [e1]; omega⟩ hno
      · exact absurd ⟨τ.2.1, t2, q, by rw [e1]; omega⟩ hno
      · rw [if_neg p, if_neg q])
    have h1 : (if u l + k * G < u i then (1 : Int) else 0) = if u l + k * G < u l then 1 else 0 := this
    rw [if_pos (by omega), if_neg (by omega)] at h1
    cases h1
  have hex' : ∀ k : Nat, ∃ x, k < n → (x < n ∧ u l + k * G < u x ∧ u x ≤ u l + (k + 1 : Nat) * G) := fun k => by
    by_cases g : k < n
    · obtain ⟨x, hx⟩ := hex k g; exact ⟨x, fun _ => hx⟩
    · exact ⟨0, fun h => absurd h g⟩
  let f : Nat → Nat := fun k => if k = n then l else Classical.choose (hex' k)
  have hf : ∀ k, k < n → f k < n ∧ u l + k * G < u (f k) ∧ u (f k) ≤ u l + (k + 1 : Nat) * G := fun k hk => by
    have := Classical.choose_spec (hex' k) hk
    show (if k = n then l else Classical.choose (hex' k)) < n ∧ u l + k * G < u (if k = n then l else Classical.choose (hex' k)) ∧ u (if k = n then l else Classical.choose (hex' k)) ≤ _
    rw [if_neg (by omega)]; exact this
  have hfn : f n = l := if_pos rfl
  refine ph n f (fun k hk => ?_) (fun a b ha hb e => ?_)
  · by_cases g : k = n
    · rw [g, hfn]; exact hl
    · exact (hf k (by omega)).1
  · have mono : ∀ a b : Nat, a < b → b < n → f a ≠ f b := fun a b hab hb e => by
      have h1 := (hf a (by omega)).2.2
      have h2 := (hf b hb).2.1
      rw [e] at h1
      have h3 : ((a + 1 : Nat) : Int) * G ≤ (b : Int) * G := Int.mul_le_mul_of_nonneg_right (by omega) hG
      omega
    have nl : ∀ a, a < n → f a ≠ l := fun a ha e => by
      have h2 := (hf a ha).2.1
      rw [e] at h2
      have : 0 ≤ (a : Int) * G := Int.mul_nonneg (by omega) hG
      omega
    by_cases g1 : a = n <;> by_cases g2 : b = n
    · omega
    · rw [g1, hfn] at e; exact absurd e.symm (nl b (by omega))
    · rw [g2, hfn] at e; exact absurd e (nl a (by omega))
    · rcases Nat.lt_trichotomy a b with q | q | q
      · exact absurd e (mono a b q (by omega))
      · exact q
      · exact absurd e.symm (mono b a q (by omega))
theorem sq_lt {K b : Int} (hK : 0 ≤ K) (h : K < b) : K * K < b * b := by
  have h1 : K * K ≤ K * b := Int.mul_le_mul_of_nonneg_left (by omega) hK
  have h2 : K * b < b * b := Int.mul_lt_mul_of_pos_right h (by omega)
  omega
theorem abs_of_sq {a K : Int} (hK : 0 ≤ K) (h : a * a ≤ K * K) : -K ≤ a ∧ a ≤ K := by
  constructor
  · refine Int.not_lt.mp (fun g => ?_)
    have := sq_lt (b := -a) hK (by omega)
    rw [Int.neg_mul_neg] at this; omega
  · refine Int.not_lt.mp (fun g => ?_)
    have := sq_lt (b := a) hK (by omega)
    omega
theorem ls_mem_le {α : Type} {f : α → Int} : ∀ {l : List α}, (∀ a, a ∈ l → 0 ≤ f a) → ∀ a, a ∈ l → f a ≤ ls f l
  | [], _, _, ha => by cases ha
  | b :: l, h, a, ha => by
    have h1 := h b (List.mem_cons_self ..)
    have h2 := ls_nn (fun b hb => h b (List.mem_cons_of_mem _ hb))
    show f a ≤ f b + ls f l
    rcases List.mem_cons.mp ha with e | e
    · subst e; omega
    · have := ls_mem_le (fun b hb => h b (List.mem_cons_of_mem _ hb)) a e
      omega
theorem pairsL_le (f : Nat → Nat → Tm) {l : List Nat} (h : l.length ≤ 6) : (pairsL f l).length ≤ 15 := by
  have h1 := pairsL_len f l
  rcases (show l.length = 0 ∨ l.length = 1 ∨ l.length = 2 ∨ l.length = 3 ∨ l.length = 4 ∨ l.length = 5 ∨ l.length = 6 by omega) with e | e | e | e | e | e | e <;> rw [e] at h1 <;> omega
theorem tC_k {s : jN} (h6 : jSix s) {r : jR} (hr : rOk r) (hg : rGood r) {ch : Nat → Nat} {w : jW} (hw : wOk w) {k : Nat} (hk : k < (jS s).length) : tC (jTk s r ch w k) ≤ 15 * 21883992134400 := by
  have hl := pairsL_le (tmCh s r ch w k) (l := jMem s (jB s k)) (by rw [jMem_len]; exact h6 _)
  unfold jTk tC
  rw [ls_app]
  have h1 : ls (fun τ : Tm => τ.2.2.1 * τ.2.2.2 * τ.2.2.2) (pairsL (tmCh s r ch w k) (jMem s (jB s k))) ≤ ls (fun _ => 21883992134400) (pairsL (tmCh s r ch w k) (jMem s (jB s k))) := by
    refine ls_le (fun τ ht => ?_)
    have h2 := jTk_in hr hg hw (ch := ch) hk τ (List.mem_append_left _ ht)
    obtain ⟨⟨_, _, a⟩, b, c⟩ := h2
    have e : τ.2.2.1 * τ.2.2.2 * τ.2.2.2 = τ.2.2.1 * ((τ.2.2.2.natAbs : Int) * (τ.2.2.2.natAbs : Int)) := by rw [Int.mul_assoc, Int.natAbs_mul_self' τ.2.2.2]
    rw [e]
    have h3 : (τ.2.2.2.natAbs : Int) * (τ.2.2.2.natAbs : Int) ≤ 470160 * 470160 := Int.mul_le_mul c c (by omega) (by decide)
    have h4 : τ.2.2.1 * ((τ.2.2.2.natAbs : Int) * (τ.2.2.2.natAbs : Int)) ≤ 99 * (470160 * 470160) := Int.mul_le_mul b h3 (Int.mul_nonneg (by omega) (by omega)) (by decide)
    omega
  rw [ls_const] at h1
  have h5 : ls (fun τ : Tm => τ.2.2.1 * τ.2.2.2 * τ.2.2.2) (if k + 1 < (jS s).length then ((jCm s k).filter (fun m => !s.2.2.2.2 m)).map (tmMv s w k) else []) = 0 := by
    refine Eq.trans (ls_ext (g := fun _ => 0) (fun τ ht => ?_)) (ls_zero _)
    by_cases e : k + 1 < (jS s).length
    · rw [if_pos e] at ht
      obtain ⟨m, _, rfl⟩ := List.mem_map.mp ht
      show (w 3 : Int) * 0 * 0 = 0
      simp
    · rw [if_neg e] at ht; cases ht
  rw [h5]
  have h6' : (21883992134400 : Int) * ((pairsL (tmCh s r ch w k) (jMem s (jB s k))).length : Int) ≤ 21883992134400 * 15 := Int.mul_le_mul_of_nonneg_left (by omega) (by decide)
  omega
theorem tC_all {s : jN} (h6 : jSix s) {r : jR} (hr : rOk r) (hg : rGood r) {ch : Nat → Nat} {w : jW} (hw : wOk w) : ∀ k, k ≤ (jS s).length → tC (jTs s r ch w k) ≤ 15 * 21883992134400 * k
  | 0, _ => by show (0 : Int) ≤ _; omega
  | k + 1, hk => by
    have h1 := tC_all h6 hr hg hw (ch := ch) k (by omega)
    have h2 := tC_k h6 hr hg hw (ch := ch) (k := k) (by omega)
    have e : tC (jTs s r ch w (k + 1)) = tC (jTs s r ch w k) + tC (jTk s r ch w k) := ls_app _ _ _
    rw [e]; push_cast; omega
theorem zN_small {s : jN} (h6 : jSix s) {r : jR} (hr : rOk r) (hg : rGood r) {ch : Nat → Nat} {w : jW} (hw : wOk w) (hn : jVn s ≤ 20) {i : Nat} (hi : i < jVn s) : ((zN s r ch w i).natAbs : Int) ≤ 2026943200 * zD s r ch w := by
  have hT := jT_in (s := s) (ch := ch) hr hg hw
  have hD := zD_pos (s := s) (ch := ch) hr hg hw
  have hc : tC (jT s r ch w) ≤ 10176056342496000 := by
    have h1 := tC_all h6 hr hg hw (ch := ch) (jS s).length (Nat.le_refl _)
    have h2 := jS_len s
    have h3 : tC (jT s r ch w) ≤ 15 * 21883992134400 * ((jS s).length : Int) := h1
    omega
  -- the energy of the moves
  have hQ : tQ (jT s r ch w) (jE s) (w 4 : Int) (zD s r ch w) (zN s r ch w) ≤ (zD s r ch w * 100877000) * (zD s r ch w * 100877000) := by
    have e0 : zD s r ch w * zW s r ch w = tQ (jT s r ch w) (jE s) (w 4 : Int) (zD s r ch w) (zN s r ch w) := by
      unfold zW
      refine en_W (A' := zA s r ch w) hT (fun i hi => zN_solves hr hg hw hi) ?_ ?_
      · unfold zA
        by_cases e : w 4 = 0
        · rw [if_pos e, e]; exact held_qf (fun l hl => zN_held hr hg hw e hl)
        · rw [if_neg e]
      · unfold zB
        by_cases e : w 4 = 0
        · rw [if_pos e]; exact held_b (fun l hl => zN_held hr hg hw e hl)
        · rw [if_neg e]
    have hW : zW s r ch w ≤ tC (jT s r ch w) * zD s r ch w := by
      have h := en_bound (e := (w 4 : Int)) (D := zD s r ch w) (N := zN s r ch w) (b' := zB s r ch w) (A' := zA s r ch w) hT (by omega) hD (pd_nn (zA_pd hr hg hw) _) (fun i hi => zN_solves hr hg hw hi) (by
        unfold zA
        by_cases e : w 4 = 0
        · rw [if_pos e, e]; exact held_qf (fun l hl => zN_held hr hg hw e hl)
        · rw [if_neg e]) (by
        unfold zB
        by_cases e : w 4 = 0
        · rw [if_pos e]; exact held_b (fun l hl => zN_held hr hg hw e hl)
        · rw [if_neg e])
      exact h.2
    rw [← e0]
    have h1 := Int.mul_le_mul_of_nonneg_left hW (Int.le_of_lt hD)
    have h2 : tC (jT s r ch w) * (zD s r ch w * zD s r ch w) ≤ 100877000 * 100877000 * (zD s r ch w * zD s r ch w) := Int.mul_le_mul_of_nonneg_right (by omega) (sq_nn _)
    refine Int.le_trans h1 (Int.le_trans (Int.le_of_eq ?_) (Int.le_trans h2 (Int.le_of_eq ?_)))
    · grind
    · grind
  have hK : 0 ≤ zD s r ch w * 100877000 := Int.mul_nonneg (by omega) (by decide)
  have n1 : ∀ τ, τ ∈ jT s r ch w → 0 ≤ τ.2.2.1 * ((zN s r ch w τ.1 - zN s r ch w τ.2.1 - zD s r ch w * τ.2.2.2) * (zN s r ch w τ.1 - zN s r ch w τ.2.1 - zD s r ch w * τ.2.2.2)) := fun τ ht => Int.mul_nonneg (hT.1 τ ht).2.2 (sq_nn _)
  have n2 : 0 ≤ (w 4 : Int) * ls (fun x => zN s r ch w x * zN s r ch w x) (jE s) := Int.mul_nonneg (by omega) (ls_nn (fun x _ => sq_nn _))
  by_cases e : w 4 = 0
  · -- along what hangs together
    have hedge : ∀ τ, τ ∈ jT s r ch w → 0 < τ.2.2.1 → zN s r ch w τ.1 - zN s r ch w τ.2.1 ≤ zD s r ch w * 101347160 ∧ zN s r ch w τ.2.1 - zN s r ch w τ.1 ≤ zD s r ch w * 101347160 := by
      intro τ ht hw0
      have h1 := ls_mem_le n1 τ ht
      have h2 : (zN s r ch w τ.1 - zN s r ch w τ.2.1 - zD s r ch w * τ.2.2.2) * (zN s r ch w τ.1 - zN s r ch w τ.2.1 - zD s r ch w * τ.2.2.2) ≤ τ.2.2.1 * ((zN s r ch w τ.1 - zN s r ch w τ.2.1 - zD s r ch w * τ.2.2.2) * (zN s r ch w τ.1 - zN s r ch w τ.2.1 - zD s r ch w * τ.2.2.2)) := by
        have := Int.mul_le_mul_of_nonneg_right (show (1 : Int) ≤ τ.2.2.1 by omega) (sq_nn (zN s r ch w τ.1 - zN s r ch w τ.2.1 - zD s r ch w * τ.2.2.2))
        rwa [Int.one_mul] at this
      have h3 := abs_of_sq hK (Int.le_trans h2 (Int.le_trans h1 (Int.le_trans (by unfold tQ; omega) hQ)))
      have h4 := (jTs_in hr hg hw (ch := ch) _ (Nat.le_refl _) τ ht).2.2
      have h5 : zD s r ch w * τ.2.2.2 ≤ zD s r ch w * 470160 := Int.mul_le_mul_of_nonneg_left (by omega) (by omega)
      have h6 : zD s r ch w * (-470160) ≤ zD s r ch w * τ.2.2.2 := Int.mul_le_mul_of_nonneg_left (by omega) (by omega)
      omega
    obtain ⟨l, hl, hcn⟩ := Ls_ex (jT s r ch w) (jVn s) (jVn s - i) i hi (Nat.le_refl _)
    have h0 := zN_held hr hg hw e hl
    have hG : 0 ≤ zD s r ch w * 101347160 := Int.mul_nonneg (by omega) (by decide)
    have g1 := gap_le (u := zN s r ch w) hG (fun τ ht => ⟨(hT.1 τ ht).1, (hT.1 τ ht).2.1⟩) hedge hl.1 hcn
    have g2 := gap_le (u := fun j => - zN s r ch w j) hG (fun τ ht => ⟨(hT.1 τ ht).1, (hT.1 τ ht).2.1⟩) (fun τ ht hw0 => by
      have := hedge τ ht hw0
      show - zN s r ch w τ.1 - - zN s r ch w τ.2.1 ≤ _ ∧ - zN s r ch w τ.2.1 - - zN s r ch w τ.1 ≤ _
      omega) hl.1 hcn
    have g2' : - zN s r ch w i - - zN s r ch w l ≤ (jVn s : Int) * (zD s r ch w * 101347160) := g2
    have g3 : (jVn s : Int) * (zD s r ch w * 101347160) ≤ 20 * (zD s r ch w * 101347160) := Int.mul_le_mul_of_nonneg_right (by omega) hG
    omega
  · -- by its own term
    have hm := ls_mem_le (f := fun x => zN s r ch w x * zN s r ch w x) (fun x _ => sq_nn _) i (jEs_all hi)
    have h1 : 1 * ls (fun x => zN s r ch w x * zN s r ch w x) (jE s) ≤ (w 4 : Int) * ls (fun x => zN s r ch w x * zN s r ch w x) (jE s) := Int.mul_le_mul_of_nonneg_right (by omega) (ls_nn (fun x _ => sq_nn _))
    have h2 : 0 ≤ ls (fun τ : Tm => τ.2.2.1 * ((zN s r ch w τ.1 - zN s r ch w τ.2.1 - zD s r ch w * τ.2.2.2) * (zN s r ch w τ.1 - zN s r ch w τ.2.1 - zD s r ch w * τ.2.2.2))) (jT s r ch w) := ls_nn n1
    have h3 := abs_of_sq hK (a := zN s r ch w i) (Int.le_trans (by unfold tQ at hQ ⊢; rw [Int.one_mul] at h1; have hm' : zN s r ch w i * zN s r ch w i ≤ ls (fun x => zN s r ch w x * zN s r ch w x) (jE s) := hm; omega) hQ)
    omega
