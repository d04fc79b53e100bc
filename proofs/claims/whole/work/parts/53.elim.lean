/-! ELIMINATION BY A PRIME -/
abbrev Nx : Type := Nat → Nat → Nat
def zx (W : Nx) : Mx := fun i j => (W i j : Int)
def kr (p : Int) (n : Nat) (W : Mx) (X : Nat → Int) : Prop := ∀ i, i < n → cg p (sm (n + 1) (fun j => W i j * X j)) 0
theorem kr_comb {p : Int} {n k l : Nat} {W W' : Mx} {X : Nat → Int} {a b : Int} (h : kr p n W X) (hk : k < n) (hl : l < n) (h1 : ∀ i j, i < n → i ≠ k → j < n + 1 → cg p (W' i j) (W i j)) (h2 : ∀ j, j < n + 1 → cg p (W' k j) (a * W k j + b * W l j)) : kr p n W' X := by
  intro i hi
  by_cases e : i = k
  · subst e
    refine cg_trans (sm_cg (g := fun j => a * (W i j * X j) + b * (W l j * X j)) (fun j hj => cg_trans (cg_mul (h2 j hj) (cg_refl p (X j))) (cg_of_eq (by grind)))) ?_
    rw [sm_add, sm_mul, sm_mul]
    have := cg_add (cg_mul (cg_refl p a) (h i hi)) (cg_mul (cg_refl p b) (h l hl))
    simpa using this
  · exact cg_trans (sm_cg (fun j hj => cg_mul (h1 i j hi e hj) (cg_refl p (X j)))) (h i hi)
theorem dt_comb {p : Int} {n k l : Nat} {W W' : Mx} {a b : Int} (hk : k < n) (hl : l < n) (hkl : k ≠ l) (h1 : ∀ i j, i < n → i ≠ k → j < n → cg p (W' i j) (W i j)) (h2 : ∀ j, j < n → cg p (W' k j) (a * W k j + b * W l j)) : cg p (dt n W') (a * dt n W) := by
  have e := dt_lin n W k hk a b (W k) (W l)
  rw [rw1_self, dt_same hk hl hkl (rw1 W k (W l)) (fun j => by rw [rw1_at, rw1_ne _ (Ne.symm hkl)])] at e
  rw [Int.mul_zero, Int.add_zero] at e
  rw [← e]
  refine dt_cg n (fun i j hi hj => ?_)
  by_cases e : i = k
  · subst e; rw [rw1_at]; exact h2 j hj
  · rw [rw1_ne _ e]; exact h1 i j hi e hj
theorem dt_comb1 {p : Int} {n k : Nat} {W W' : Mx} {a : Int} (hk : k < n) (h1 : ∀ i j, i < n → i ≠ k → j < n → cg p (W' i j) (W i j)) (h2 : ∀ j, j < n → cg p (W' k j) (a * W k j)) : cg p (dt n W') (a * dt n W) := by
  rw [← dt_scale hk W a]
  refine dt_cg n (fun i j hi hj => ?_)
  by_cases e : i = k
  · subst e; rw [rw1_at]; exact h2 j hj
  · rw [rw1_ne _ e]; exact h1 i j hi e hj
def eIn (p n : Nat) (A : Mx) (X : Nat → Int) (W : Nx) (d c : Nat) : Prop := kr p n (zx W) X ∧ cg p (dt n A) ((d : Int) * dt n (zx W)) ∧ (∀ k, k < c → W k k = 1) ∧ (∀ k r, k < c → k < r → r < n → W r k = 0) ∧ (∀ i j, i < n → j < n + 1 → W i j < p)
theorem natmod_cg (a p : Nat) : cg (p : Int) ((a % p : Nat) : Int) (a : Int) := by rw [Int.natCast_emod]; exact cg_mod _ _
def wSwap (W : Nx) (a b : Nat) : Nx := fun i j => if i = a then W b j else if i = b then W a j else W i j
theorem eIn_swap {p n : Nat} {A : Mx} {X : Nat → Int} {W : Nx} {d c r : Nat} (h : eIn p n A X W d c) (hc : c < r) (hr : r < n) (hd : d ≤ p) : eIn p n A X (wSwap W c r) (p - d) c := by
  refine ⟨fun i hi => ?_, ?_, fun k hk => ?_, fun k q hk hq hn => ?_, fun i j hi hj => ?_⟩
  · by_cases e : i = c
    · subst e; exact cg_trans (cg_of_eq (sm_ext (fun j _ => by show ((if i = i then W r j else _ : Nat) : Int) * _ = (W r j : Int) * _; rw [if_pos rfl]))) (h.1 r hr)
    · by_cases e' : i = r
      · subst e'; exact cg_trans (cg_of_eq (sm_ext (fun j _ => by show ((if i = c then _ else if i = i then W c j else _ : Nat) : Int) * _ = (W c j : Int) * _; rw [if_neg e, if_pos rfl]))) (h.1 c (by omega))
      · exact cg_trans (cg_of_eq (sm_ext (fun j _ => by show ((if i = c then _ else if i = r then W c j else W i j : Nat) : Int) * _ = (W i j : Int) * _; rw [if_neg e, if_neg e']))) (h.1 i hi)
  · have e : zx (wSwap W c r) = rw1 (rw1 (zx W) c (zx W r)) r (zx W c) := by
      funext i j
      unfold zx wSwap rw1
      by_cases e : i = r
      · rw [if_pos e, if_neg (by omega), if_pos e]
      · by_cases e' : i = c
        · simp only [if_pos e', if_neg e]
        · simp only [if_neg e, if_neg e']
    rw [e, dt_swap (by omega) hr (by omega)]
    refine cg_trans h.2.1 ?_
    have hp : ((p - d : Nat) : Int) = (p : Int) - d := by omega
    rw [hp]
    exact cg_symm ⟨- dt n (zx W), by grind⟩
  · unfold wSwap; rw [if_neg (by omega), if_neg (by omega)]; exact h.2.2.1 k hk
  · unfold wSwap
    by_cases e : q = c
    · rw [if_pos e]; exact h.2.2.2.1 k r hk (by omega) hr
    · rw [if_neg e]
      by_cases e' : q = r
      · rw [if_pos e']; exact h.2.2.2.1 k c hk (by omega) (by omega)
      · rw [if_neg e']; exact h.2.2.2.1 k q hk hq hn
  · unfold wSwap
    by_cases e : i = c
    · rw [if_pos e]; exact h.2.2.2.2 r j hr hj
    · rw [if_neg e]
      by_cases e' : i = r
      · rw [if_pos e']; exact h.2.2.2.2 c j (by omega) hj
      · rw [if_neg e']; exact h.2.2.2.2 i j hi hj
def wScale (W : Nx) (p c f m : Nat) : Nx := fun i j => if i = c ∧ c ≤ j ∧ j < m then W c j * f % p else W i j
theorem eIn_scale {p n : Nat} {A : Mx} {X : Nat → Int} {W : Nx} {d c f : Nat} (h : eIn p n A X W d c) (hp : 2 ≤ p) (hc : c < n) (hf : W c c * f % p = 1) : eIn p n A X (wScale W p c f (n + 1)) (d * W c c % p) c ∧ wScale W p c f (n + 1) c c = 1 := by
  have hrow : ∀ j, j < n + 1 → cg p (zx (wScale W p c f (n + 1)) c j) ((f : Int) * zx W c j) := by
    intro j hj
    unfold zx wScale
    by_cases e : c ≤ j
    · rw [if_pos ⟨rfl, e, hj⟩]
      exact cg_trans (natmod_cg _ _) (cg_of_eq (by push_cast; grind))
    · rw [if_neg (by omega), h.2.2.2.1 j c (by omega) (by omega) hc]
      exact cg_of_eq (by simp)
  have hoth : ∀ i j, i < n → i ≠ c → cg p (zx (wScale W p c f (n + 1)) i j) (zx W i j) := by
    intro i j hi hn
    unfold zx wScale
    rw [if_neg (by omega)]; exact cg_refl _ _
  refine ⟨⟨?_, ?_, fun k hk => ?_, fun k q hk hq hn => ?_, fun i j hi hj => ?_⟩, ?_⟩
  · exact kr_comb (a := f) (b := 0) (l := c) h.1 hc hc (fun i j hi hn _ => hoth i j hi hn) (fun j hj => cg_trans (hrow j hj) (cg_of_eq (by simp)))
  · have hd := dt_comb1 (p := p) (n := n) (W := zx W) hc (fun i j hi hn _ => hoth i j hi hn) (fun j hj => hrow j (by omega))
    refine cg_trans h.2.1 (cg_symm (cg_trans (cg_mul (natmod_cg _ _) hd) ?_))
    have h1 : cg p (((W c c : Nat) : Int) * (f : Int)) 1 := by
      have := natmod_cg (W c c * f) p
      rw [hf] at this
      exact cg_symm (cg_trans this (cg_of_eq (by push_cast; rfl)))
    have := cg_mul h1 (cg_refl p ((d : Int) * dt n (zx W)))
    refine cg_trans (cg_of_eq ?_) (cg_trans this (cg_of_eq (by simp)))
    push_cast; grind
  · unfold wScale; rw [if_neg (by omega)]; exact h.2.2.1 k hk
  · unfold wScale; rw [if_neg (by omega)]; exact h.2.2.2.1 k q hk hq hn
  · unfold wScale
    split
    · exact Nat.mod_lt _ (by omega)
    · exact h.2.2.2.2 i j hi hj
  · unfold wScale; rw [if_pos ⟨rfl, Nat.le_refl _, by omega⟩]; exact hf
def wSub (W : Nx) (p c b m : Nat) : Nx := fun i j => if i = b ∧ c ≤ j ∧ j < m then (W b j + (p - W b c) * W c j) % p else W i j
theorem eIn_sub {p n : Nat} {A : Mx} {X : Nat → Int} {W : Nx} {d c b : Nat} (h : eIn p n A X W d c) (hp : 2 ≤ p) (hc : c < b) (hb : b < n) (h1 : W c c = 1) : eIn p n A X (wSub W p c b (n + 1)) d c ∧ wSub W p c b (n + 1) b c = 0 := by
  have hlt := h.2.2.2.2 b c hb (by omega)
  have hrow : ∀ j, j < n + 1 → cg p (zx (wSub W p c b (n + 1)) b j) (1 * zx W b j + (-(W b c : Int)) * zx W c j) := by
    intro j hj
    unfold zx wSub
    by_cases e : c ≤ j
    · rw [if_pos ⟨rfl, e, hj⟩]
      refine cg_trans (natmod_cg _ _) ⟨W c j, ?_⟩
      have hp' : ((p - W b c : Nat) : Int) = (p : Int) - W b c := by omega
      push_cast [hp']; grind
    · rw [if_neg (by omega), h.2.2.2.1 j c (by omega) (by omega) (by omega)]
      exact cg_of_eq (by simp)
  have hoth : ∀ i j, i < n → i ≠ b → cg p (zx (wSub W p c b (n + 1)) i j) (zx W i j) := by
    intro i j hi hn
    unfold zx wSub
    rw [if_neg (by omega)]; exact cg_refl _ _
  refine ⟨⟨?_, ?_, fun k hk => ?_, fun k q hk hq hn => ?_, fun i j hi hj => ?_⟩, ?_⟩
  · exact kr_comb (l := c) h.1 hb (by omega) (fun i j hi hn _ => hoth i j hi hn) (fun j hj => hrow j hj)
  · have hd := dt_comb (p := p) (n := n) (W := zx W) hb (show c < n by omega) (by omega) (fun i j hi hn _ => hoth i j hi hn) (fun j hj => hrow j (by omega))
    rw [Int.one_mul] at hd
    exact cg_trans h.2.1 (cg_mul (cg_refl _ _) (cg_symm hd))
  · unfold wSub; rw [if_neg (by omega)]; exact h.2.2.1 k hk
  · unfold wSub; rw [if_neg (by omega)]; exact h.2.2.2.1 k q hk hq hn
  · unfold wSub
    split
    · exact Nat.mod_lt _ (by omega)
    · exact h.2.2.2.2 i j hi hj
  · unfold wSub
    rw [if_pos ⟨rfl, Nat.le_refl _, by omega⟩, h1, Nat.mul_one, Nat.add_sub_cancel' (by omega), Nat.mod_self]
theorem eIn_next {p n : Nat} {A : Mx} {X : Nat → Int} {W : Nx} {d c : Nat} (h : eIn p n A X W d c) (h1 : W c c = 1) (h0 : ∀ r, c < r → r < n → W r c = 0) : eIn p n A X W d (c + 1) :=
  ⟨h.1, h.2.1, fun k hk => by
    by_cases e : k = c
    · subst e; exact h1
    · exact h.2.2.1 k (by omega), fun k r hk hr hn => by
    by_cases e : k = c
    · subst e; exact h0 r hr hn
    · exact h.2.2.2.1 k r (by omega) hr hn, h.2.2.2.2⟩
theorem eIn_fail {p n : Nat} {A : Mx} {X : Nat → Int} {W : Nx} {d c : Nat} (h : eIn p n A X W d c) (hc : c < n) (h0 : ∀ r, c ≤ r → r < n → W r c = 0) : cg p (dt n A) 0 := by
  have := dt_tri0 (p := p) (W := zx W) hc (fun k hk => cg_of_eq (by show ((W k k : Nat) : Int) = 1; rw [h.2.2.1 k hk]; rfl)) (fun k r hk hr hn => cg_of_eq (by show ((W r k : Nat) : Int) = 0; rw [h.2.2.2.1 k r hk hr hn]; rfl)) (fun r hr hn => cg_of_eq (by show ((W r c : Nat) : Int) = 0; rw [h0 r hr hn]; rfl))
  have z := cg_trans h.2.1 (cg_mul (cg_refl p (d : Int)) this)
  rwa [Int.mul_zero] at z
theorem eIn_done {p n : Nat} {A : Mx} {X : Nat → Int} {W : Nx} {d : Nat} (h : eIn p n A X W d n) : cg p (dt n A) d := by
  have := dt_tri1 (p := p) (n := n) (W := zx W) (fun k hk => cg_of_eq (by show ((W k k : Nat) : Int) = 1; rw [h.2.2.1 k hk]; rfl)) (fun k r hk hr hn => cg_of_eq (by show ((W r k : Nat) : Int) = 0; rw [h.2.2.2.1 k r hk hr hn]; rfl))
  have z := cg_trans h.2.1 (cg_mul (cg_refl p (d : Int)) this)
  rwa [Int.mul_one] at z
theorem eIn_start {p n : Nat} {A : Mx} {b X : Nat → Int} {W : Nx} (hX : ∀ i, i < n → sm n (fun j => A i j * X j) + b i * X n = 0) (h1 : ∀ i j, i < n → j < n → cg p (W i j : Int) (A i j)) (h2 : ∀ i, i < n → cg p (W i n : Int) (b i)) (hlt : ∀ i j, i < n → j < n + 1 → W i j < p) : eIn p n A X W 1 0 := by
  refine ⟨fun i hi => ?_, ?_, fun k hk => absurd hk (by omega), fun k r hk => absurd hk (by omega), hlt⟩
  · rw [← hX i hi]
    exact cg_add (sm_cg (fun j hj => cg_mul (h1 i j hi hj) (cg_refl _ _))) (cg_mul (h2 i hi) (cg_refl _ _))
  · rw [Int.natCast_one, Int.one_mul]
    exact cg_symm (dt_cg n (fun i j hi hj => h1 i j hi hj))
/-- back from the last row -/
theorem eIn_back {p n : Nat} {A : Mx} {X : Nat → Int} {W : Nx} {d i : Nat} (h : eIn p n A X W d n) (hXn : X n = - dt n A) {R : Nat → Nat} (hi : i < n) (hR : ∀ j, i < j → j < n → cg p ((R j : Int) * d) (X j)) {v : Int} (hv : cg p v ((W i n : Int) - sm n (fun j => if i < j then (W i j : Int) * R j else 0))) : cg p (v * d) (X i) := by
  have hk := h.1 i hi
  have hd := eIn_done h
  have e1 : sm (n + 1) (fun j => zx W i j * X j) = sm n (fun j => zx W i j * X j) + zx W i n * X n := rfl
  have e2 : sm n (fun j => zx W i j * X j) = X i + sm n (fun j => if i < j then (W i j : Int) * X j else 0) := by
    have : sm n (fun j => zx W i j * X j) = sm n (fun j => (if j = i then X i else 0) + (if i < j then (W i j : Int) * X j else 0)) := by
      refine sm_ext (fun j hj => ?_)
      unfold zx
      rcases Nat.lt_trichotomy j i with g | g | g
      · rw [h.2.2.2.1 j i (by omega) g hi, if_neg (by omega), if_neg (by omega)]; simp
      · subst g; rw [h.2.2.1 j hj, if_pos rfl, if_neg (by omega)]; simp
      · rw [if_neg (by omega), if_pos g]; simp
    rw [this, sm_add, sm_one (k := i) hi (fun j _ hn => by rw [if_neg hn])]
    rw [if_pos rfl]
  rw [e1, e2, hXn] at hk
  refine cg_trans (cg_mul hv (cg_refl p (d : Int))) ?_
  have h3 : cg p (sm n (fun j => if i < j then (W i j : Int) * R j else 0) * d) (sm n (fun j => if i < j then (W i j : Int) * X j else 0)) := by
    rw [← sm_mulr]
    refine sm_cg (fun j hj => ?_)
    by_cases g : i < j
    · rw [if_pos g, if_pos g, Int.mul_assoc]; exact cg_mul (cg_refl _ _) (hR j g hj)
    · rw [if_neg g, if_neg g]; exact cg_of_eq (by simp)
  have h4 : cg p ((W i n : Int) * d) ((W i n : Int) * dt n A) := cg_mul (cg_refl _ _) (cg_symm hd)
  have h5 := cg_sub h4 h3
  refine cg_trans (cg_of_eq (by rw [Int.sub_mul])) (cg_trans h5 ?_)
  obtain ⟨z, hz⟩ := hk
  refine ⟨-z, ?_⟩
  have hz' : X i + sm n (fun j => if i < j then (W i j : Int) * X j else 0) + (W i n : Int) * - dt n A - 0 = p * z := hz
  rw [Int.mul_neg] at hz'
  rw [Int.mul_neg]
  omega
