def RP117 : Nat → Nat → Option Nat := aU RP116 159 1 (some 160)
theorem wP117 : ∀ a b r, RP117 a b = some r → r < 161 := wf_step (n := 161) wP116 (by decide) (by decide)
theorem oP117 : ∀ a b, 160 ≤ a → RP117 a b = none := no_step (n := 160) oP116 (by decide) (by decide)
def RP118 : Nat → Nat → Option Nat := aU RP117 159 2 (some 161)
theorem wP118 : ∀ a b r, RP118 a b = some r → r < 162 := wf_step (n := 162) wP117 (by decide) (by decide)
theorem oP118 : ∀ a b, 160 ≤ a → RP118 a b = none := no_step (n := 160) oP117 (by decide) (by decide)
def RP119 : Nat → Nat → Option Nat := aU RP118 159 3 (some 162)
theorem wP119 : ∀ a b r, RP119 a b = some r → r < 163 := wf_step (n := 163) wP118 (by decide) (by decide)
theorem oP119 : ∀ a b, 160 ≤ a → RP119 a b = none := no_step (n := 160) oP118 (by decide) (by decide)
def RP120 : Nat → Nat → Option Nat := aU RP119 159 4 (some 163)
theorem wP120 : ∀ a b r, RP120 a b = some r → r < 164 := wf_step (n := 164) wP119 (by decide) (by decide)
theorem oP120 : ∀ a b, 160 ≤ a → RP120 a b = none := no_step (n := 160) oP119 (by decide) (by decide)
def RP121 : Nat → Nat → Option Nat := aU RP120 159 5 (some 164)
theorem wP121 : ∀ a b r, RP121 a b = some r → r < 165 := wf_step (n := 165) wP120 (by decide) (by decide)
theorem oP121 : ∀ a b, 160 ≤ a → RP121 a b = none := no_step (n := 160) oP120 (by decide) (by decide)
def RP122 : Nat → Nat → Option Nat := aU RP121 159 6 (some 165)
theorem wP122 : ∀ a b r, RP122 a b = some r → r < 166 := wf_step (n := 166) wP121 (by decide) (by decide)
theorem oP122 : ∀ a b, 160 ≤ a → RP122 a b = none := no_step (n := 160) oP121 (by decide) (by decide)
def RP123 : Nat → Nat → Option Nat := aU RP122 159 7 (some 166)
theorem wP123 : ∀ a b r, RP123 a b = some r → r < 167 := wf_step (n := 167) wP122 (by decide) (by decide)
theorem oP123 : ∀ a b, 160 ≤ a → RP123 a b = none := no_step (n := 160) oP122 (by decide) (by decide)
def RP124 : Nat → Nat → Option Nat := aU RP123 159 8 (some 167)
theorem wP124 : ∀ a b r, RP124 a b = some r → r < 168 := wf_step (n := 168) wP123 (by decide) (by decide)
theorem oP124 : ∀ a b, 160 ≤ a → RP124 a b = none := no_step (n := 160) oP123 (by decide) (by decide)
def RP125 : Nat → Nat → Option Nat := aU RP124 159 9 (some 168)
theorem wP125 : ∀ a b r, RP125 a b = some r → r < 169 := wf_step (n := 169) wP124 (by decide) (by decide)
theorem oP125 : ∀ a b, 160 ≤ a → RP125 a b = none := no_step (n := 160) oP124 (by decide) (by decide)
def RP126 : Nat → Nat → Option Nat := aU RP125 159 10 (some 169)
theorem wP126 : ∀ a b r, RP126 a b = some r → r < 170 := wf_step (n := 170) wP125 (by decide) (by decide)
theorem oP126 : ∀ a b, 160 ≤ a → RP126 a b = none := no_step (n := 160) oP125 (by decide) (by decide)
def RP127 : Nat → Nat → Option Nat := aU RP126 159 11 (some 170)
theorem wP127 : ∀ a b r, RP127 a b = some r → r < 171 := wf_step (n := 171) wP126 (by decide) (by decide)
theorem oP127 : ∀ a b, 160 ≤ a → RP127 a b = none := no_step (n := 160) oP126 (by decide) (by decide)
def RP128 : Nat → Nat → Option Nat := aU RP127 159 15 (some 171)
theorem wP128 : ∀ a b r, RP128 a b = some r → r < 172 := wf_step (n := 172) wP127 (by decide) (by decide)
theorem oP128 : ∀ a b, 160 ≤ a → RP128 a b = none := no_step (n := 160) oP127 (by decide) (by decide)
def RP129 : Nat → Nat → Option Nat := aU RP128 159 16 (some 172)
theorem wP129 : ∀ a b r, RP129 a b = some r → r < 173 := wf_step (n := 173) wP128 (by decide) (by decide)
theorem oP129 : ∀ a b, 160 ≤ a → RP129 a b = none := no_step (n := 160) oP128 (by decide) (by decide)
def RP130 : Nat → Nat → Option Nat := aU RP129 159 17 (some 173)
theorem wP130 : ∀ a b r, RP130 a b = some r → r < 174 := wf_step (n := 174) wP129 (by decide) (by decide)
theorem oP130 : ∀ a b, 160 ≤ a → RP130 a b = none := no_step (n := 160) oP129 (by decide) (by decide)
def RP131 : Nat → Nat → Option Nat := aU RP130 159 18 (some 174)
theorem wP131 : ∀ a b r, RP131 a b = some r → r < 175 := wf_step (n := 175) wP130 (by decide) (by decide)
theorem oP131 : ∀ a b, 160 ≤ a → RP131 a b = none := no_step (n := 160) oP130 (by decide) (by decide)
def RP132 : Nat → Nat → Option Nat := aU RP131 159 19 (some 175)
theorem wP132 : ∀ a b r, RP132 a b = some r → r < 176 := wf_step (n := 176) wP131 (by decide) (by decide)
theorem oP132 : ∀ a b, 160 ≤ a → RP132 a b = none := no_step (n := 160) oP131 (by decide) (by decide)
def RP133 : Nat → Nat → Option Nat := aU RP132 159 20 (some 176)
theorem wP133 : ∀ a b r, RP133 a b = some r → r < 177 := wf_step (n := 177) wP132 (by decide) (by decide)
theorem oP133 : ∀ a b, 160 ≤ a → RP133 a b = none := no_step (n := 160) oP132 (by decide) (by decide)
def RP134 : Nat → Nat → Option Nat := aU RP133 159 22 (some 177)
theorem wP134 : ∀ a b r, RP134 a b = some r → r < 178 := wf_step (n := 178) wP133 (by decide) (by decide)
theorem oP134 : ∀ a b, 160 ≤ a → RP134 a b = none := no_step (n := 160) oP133 (by decide) (by decide)
def RP135 : Nat → Nat → Option Nat := aU RP134 159 23 (some 178)
theorem wP135 : ∀ a b r, RP135 a b = some r → r < 179 := wf_step (n := 179) wP134 (by decide) (by decide)
theorem oP135 : ∀ a b, 160 ≤ a → RP135 a b = none := no_step (n := 160) oP134 (by decide) (by decide)
def RP136 : Nat → Nat → Option Nat := aU RP135 159 24 (some 179)
theorem wP136 : ∀ a b r, RP136 a b = some r → r < 180 := wf_step (n := 180) wP135 (by decide) (by decide)
theorem oP136 : ∀ a b, 160 ≤ a → RP136 a b = none := no_step (n := 160) oP135 (by decide) (by decide)
def RP137 : Nat → Nat → Option Nat := aU RP136 159 25 (some 180)
theorem wP137 : ∀ a b r, RP137 a b = some r → r < 181 := wf_step (n := 181) wP136 (by decide) (by decide)
theorem oP137 : ∀ a b, 160 ≤ a → RP137 a b = none := no_step (n := 160) oP136 (by decide) (by decide)
def RP138 : Nat → Nat → Option Nat := aU RP137 159 26 (some 181)
theorem wP138 : ∀ a b r, RP138 a b = some r → r < 182 := wf_step (n := 182) wP137 (by decide) (by decide)
theorem oP138 : ∀ a b, 160 ≤ a → RP138 a b = none := no_step (n := 160) oP137 (by decide) (by decide)
def RP139 : Nat → Nat → Option Nat := aU RP138 159 27 (some 182)
theorem wP139 : ∀ a b r, RP139 a b = some r → r < 183 := wf_step (n := 183) wP138 (by decide) (by decide)
theorem oP139 : ∀ a b, 160 ≤ a → RP139 a b = none := no_step (n := 160) oP138 (by decide) (by decide)
def RP140 : Nat → Nat → Option Nat := aU RP139 159 28 (some 183)
theorem wP140 : ∀ a b r, RP140 a b = some r → r < 184 := wf_step (n := 184) wP139 (by decide) (by decide)
theorem oP140 : ∀ a b, 160 ≤ a → RP140 a b = none := no_step (n := 160) oP139 (by decide) (by decide)
def RP141 : Nat → Nat → Option Nat := aU RP140 159 29 (some 184)
theorem wP141 : ∀ a b r, RP141 a b = some r → r < 185 := wf_step (n := 185) wP140 (by decide) (by decide)
theorem oP141 : ∀ a b, 160 ≤ a → RP141 a b = none := no_step (n := 160) oP140 (by decide) (by decide)
def RP142 : Nat → Nat → Option Nat := aU RP141 159 30 (some 185)
theorem wP142 : ∀ a b r, RP142 a b = some r → r < 186 := wf_step (n := 186) wP141 (by decide) (by decide)
theorem oP142 : ∀ a b, 160 ≤ a → RP142 a b = none := no_step (n := 160) oP141 (by decide) (by decide)
def RP143 : Nat → Nat → Option Nat := aU RP142 159 31 (some 186)
theorem wP143 : ∀ a b r, RP143 a b = some r → r < 187 := wf_step (n := 187) wP142 (by decide) (by decide)
theorem oP143 : ∀ a b, 160 ≤ a → RP143 a b = none := no_step (n := 160) oP142 (by decide) (by decide)
def RP144 : Nat → Nat → Option Nat := aU RP143 159 35 (some 187)
theorem wP144 : ∀ a b r, RP144 a b = some r → r < 188 := wf_step (n := 188) wP143 (by decide) (by decide)
theorem oP144 : ∀ a b, 160 ≤ a → RP144 a b = none := no_step (n := 160) oP143 (by decide) (by decide)
def RP145 : Nat → Nat → Option Nat := aU RP144 159 37 (some 188)
theorem wP145 : ∀ a b r, RP145 a b = some r → r < 189 := wf_step (n := 189) wP144 (by decide) (by decide)
theorem oP145 : ∀ a b, 160 ≤ a → RP145 a b = none := no_step (n := 160) oP144 (by decide) (by decide)
def RP146 : Nat → Nat → Option Nat := aU RP145 159 38 (some 189)
theorem wP146 : ∀ a b r, RP146 a b = some r → r < 190 := wf_step (n := 190) wP145 (by decide) (by decide)
theorem oP146 : ∀ a b, 160 ≤ a → RP146 a b = none := no_step (n := 160) oP145 (by decide) (by decide)
def RP147 : Nat → Nat → Option Nat := aU RP146 159 39 (some 190)
theorem wP147 : ∀ a b r, RP147 a b = some r → r < 191 := wf_step (n := 191) wP146 (by decide) (by decide)
theorem oP147 : ∀ a b, 160 ≤ a → RP147 a b = none := no_step (n := 160) oP146 (by decide) (by decide)
def RP148 : Nat → Nat → Option Nat := aU RP147 159 40 (some 191)
theorem wP148 : ∀ a b r, RP148 a b = some r → r < 192 := wf_step (n := 192) wP147 (by decide) (by decide)
theorem oP148 : ∀ a b, 160 ≤ a → RP148 a b = none := no_step (n := 160) oP147 (by decide) (by decide)
def RP149 : Nat → Nat → Option Nat := aU RP148 159 41 (some 192)
theorem wP149 : ∀ a b r, RP149 a b = some r → r < 193 := wf_step (n := 193) wP148 (by decide) (by decide)
theorem oP149 : ∀ a b, 160 ≤ a → RP149 a b = none := no_step (n := 160) oP148 (by decide) (by decide)
def RP150 : Nat → Nat → Option Nat := aU RP149 159 43 (some 193)
theorem wP150 : ∀ a b r, RP150 a b = some r → r < 194 := wf_step (n := 194) wP149 (by decide) (by decide)
theorem oP150 : ∀ a b, 160 ≤ a → RP150 a b = none := no_step (n := 160) oP149 (by decide) (by decide)
def RP151 : Nat → Nat → Option Nat := aU RP150 159 44 (some 194)
theorem wP151 : ∀ a b r, RP151 a b = some r → r < 195 := wf_step (n := 195) wP150 (by decide) (by decide)
theorem oP151 : ∀ a b, 160 ≤ a → RP151 a b = none := no_step (n := 160) oP150 (by decide) (by decide)
def RP152 : Nat → Nat → Option Nat := aU RP151 159 45 (some 195)
theorem wP152 : ∀ a b r, RP152 a b = some r → r < 196 := wf_step (n := 196) wP151 (by decide) (by decide)
theorem oP152 : ∀ a b, 160 ≤ a → RP152 a b = none := no_step (n := 160) oP151 (by decide) (by decide)
def RP153 : Nat → Nat → Option Nat := aU RP152 159 46 (some 196)
theorem wP153 : ∀ a b r, RP153 a b = some r → r < 197 := wf_step (n := 197) wP152 (by decide) (by decide)
theorem oP153 : ∀ a b, 160 ≤ a → RP153 a b = none := no_step (n := 160) oP152 (by decide) (by decide)
theorem getD_out {α : Type} {l : List α} {n : Nat} {d : α} (h : l.length ≤ n) : l.getD n d = d := by
  rw [List.getD_eq_getElem?_getD, List.getElem?_eq_none h]; rfl
theorem aRf_chk : (List.range 198).all (fun k => match R0l.getD k [] with
  | [] => true
  | l => (List.range l.length).all (fun i => match l.getD i none with
    | none => true
    | some r => decide (RP153 k i = some r))) = true := by decide +kernel
theorem R0l_len : R0l.length ≤ 198 := by decide +kernel
theorem aRf_made : aRf RP153 := by
  intro k i r h
  have hk : k < 198 := by
    apply Decidable.byContradiction; intro g
    have e : R0l.getD k [] = [] := getD_out (by have := R0l_len; omega)
    unfold R0 at h; rw [e] at h; cases h
  have hc := List.all_eq_true.mp aRf_chk k (List.mem_range.mpr hk)
  unfold R0 at h
  cases e : R0l.getD k [] with
  | nil => rw [e] at h; cases h
  | cons x l =>
    rw [e] at h hc
    have hi : i < (x :: l).length := by
      apply Decidable.byContradiction; intro g
      rw [getD_out (by omega)] at h; cases h
    have hd := List.all_eq_true.mp hc i (List.mem_range.mpr hi)
    rw [h] at hd
    exact of_decide_eq_true hd
def sN : jN := (0, fun _ => 0, fun _ => 0, fun _ => 0, fun _ => false)
def rE : jR := (fun _ => 0, fun _ => 0, fun _ => 0)
def z0 : jZ := (sN, r0, w0, false, false, [])
theorem sN_ok : jOk sN := ⟨by show 0 ≤ 16; omega, fun i hi => absurd hi (Nat.not_lt_zero _)⟩
theorem sN_six : jSix sN := fun t => by show 0 ≤ 6; omega
theorem sN_S : jS sN = [] := rfl
theorem sN_V : jVn sN = 0 := rfl
theorem w0_ok : wOk w0 := ⟨by decide, fun i h1 h2 => by
  match i, h1, h2 with
  | 0, h, _ => omega
  | 1, _, _ => decide
  | 2, _, _ => decide
  | 3, _, _ => decide
  | 4, _, _ => decide
  | n + 5, _, h => omega⟩
theorem ud_al : ∀ c, c < 12 → jAlN (uN c) (dN c) = true
  | 0, _ => by decide +kernel
  | 1, _ => by decide +kernel
  | 2, _ => by decide +kernel
  | 3, _ => by decide +kernel
  | 4, _ => by decide +kernel
  | 5, _ => by decide +kernel
  | 6, _ => by decide +kernel
  | 7, _ => by decide +kernel
  | 8, _ => by decide +kernel
  | 9, _ => by decide +kernel
  | 10, _ => by decide +kernel
  | 11, _ => by decide +kernel
  | n + 12, h => absurd h (by omega)
theorem r0_good : rGood r0 := fun c i hc hi => by
  have hi' : i < 1 := hi
  have e : (c * 3 + i) / 3 = c := by omega
  show jAlN (uN ((c * 3 + i) / 3)) (dN ((c * 3 + i) / 3)) = true
  rw [e]; exact ud_al c hc
theorem mlRep_e {I : Nat → Nat → Int32} (h1 : ∀ c, I 164 c = 0) (h2 : ∀ q, q < 6 → I 168 q = nI (jP q) ∧ I 169 q = jLg q) : mlRep I rE := ⟨fun c _ => ⟨by show 0 ≤ 3; omega, fun i hi => absurd hi (Nat.not_lt_zero _)⟩, fun c _ => h1 c, fun c i j _ hi => absurd hi (Nat.not_lt_zero _), h2⟩
def mPt (I I1 : Nat → Nat → Int32) (n : Nat) : Prop := ∃ r : jR, mlRep I1 r ∧ (∀ c, c < 12 → r.1 c = if c < n then 1 else 0) ∧ (∀ c, c < n → r.2.1 (c * 3) = uN c ∧ r.2.2 (c * 3) = dN c) ∧ ∀ q j, (q < 164 ∨ 167 < q) → I1 q j = I q j
theorem mPt_step {I I1 I2 : Nat → Nat → Int32} {n : Nat} {r : jR} (hn : n < 12) (h1 : ∀ c, c < 12 → r.1 c = if c < n then 1 else 0) (h2 : ∀ c, c < n → r.2.1 (c * 3) = uN c ∧ r.2.2 (c * 3) = dN c) (h3 : ∀ q j, (q < 164 ∨ 167 < q) → I1 q j = I q j) (h : mlRep I2 (rPush r n (uN n) (dN n))) (hk : ∀ q j, (q < 164 ∨ 167 < q) → I2 q j = I1 q j) : mPt I I2 (n + 1) := by
  have hr : r.1 n = 0 := by rw [h1 n hn, if_neg (by omega)]
  refine ⟨_, h, fun c hc => ?_, fun c hc => ?_, fun q j hq => (hk q j hq).trans (h3 q j hq)⟩
  · show va_up r.1 n (r.1 n + 1) c = _
    by_cases e : c = n
    · subst e; rw [up_s, hr, if_pos (by omega)]
    · rw [up_n e, h1 c hc]
      by_cases g : c < n
      · rw [if_pos g, if_pos (by omega)]
      · rw [if_neg g, if_neg (by omega)]
  · show va_up r.2.1 (n * 3 + r.1 n) (uN n) (c * 3) = _ ∧ va_up r.2.2 (n * 3 + r.1 n) (dN n) (c * 3) = _
    by_cases e : c = n
    · subst e; rw [hr]; exact ⟨up_s, up_s⟩
    · rw [up_n (by omega), up_n (by omega)]; exact h2 c (by omega)
theorem mPt_end {I I1 : Nat → Nat → Int32} (h : mPt I I1 12) : mlRep I1 r0 ∧ ∀ q j, (q < 164 ∨ 167 < q) → I1 q j = I q j := by
  obtain ⟨r, hl, h1, h2, h3⟩ := h
  refine ⟨⟨rOk_r0, fun c hc => ?_, fun c i j hc hi hj => ?_, hl.2.2.2⟩, h3⟩
  · rw [hl.2.1 c hc, h1 c hc, if_pos hc]; rfl
  · have hi' : i < 1 := hi
    have e0 : i = 0 := by omega
    have e : (c * 3 + i) / 3 = c := by omega
    have := hl.2.2.1 c i j hc (by rw [h1 c hc, if_pos hc]; exact hi') hj
    show I1 165 j = nI (uN ((c * 3 + i) / 3)) ∧ I1 166 j = nI (dN ((c * 3 + i) / 3)) ∧ ∀ q, q < 6 → I1 167 (6 * j + q) = jPd (uN ((c * 3 + i) / 3)) (dN ((c * 3 + i) / 3)) q
    rw [e]
    subst e0
    have e1 : r.2.1 (c * 3 + 0) = uN c := (h2 c hc).1
    have e2 : r.2.2 (c * 3 + 0) = dN c := (h2 c hc).2
    rw [e1, e2] at this
    exact this
theorem mm_made {I I1 I' : Nat → Nat → Int32} {L : Nat → Nat → Int64} (hI : ∀ q j, 159 ≤ q → (q < 168 ∨ 170 < q) → q ≠ 197 → I q j = 0) (hw : ∀ i, i < 5 → I 170 i = nI (w0 i)) (hk : ∀ q j, (q < 164 ∨ 167 < q) → I1 q j = I q j) (h1 : mnRep I' sN) (h2 : msRep I' sN (jS sN)) (h3 : mlRep I' r0) (h4 : mcRep I' sN r0) (h5 : I' 159 12 = bI false) (h6 : I' 159 13 = bI false) (hd : dvK I1 I') : mmRep I' L z0 := by
  have e : ∀ q j, (q < 164 ∨ 167 < q) → ¬ (q = 159 ∧ (j = 12 ∨ j = 13 ∨ j = 14 ∨ j = 21)) → ¬ (171 ≤ q ∧ q ≤ 178) → I' q j = I q j := fun q j a b c => (hd q j b c).trans (hk q j a)
  refine ⟨h1, sN_ok, sN_six, h3, r0_good, ⟨w0_ok, fun i hi => (e 170 i (by omega) (by omega) (by omega)).trans (hw i hi)⟩, h2, h4, h5, h6, fun h => (by cases h), fun h => (by cases h), fun h => (by cases h), ⟨0, fun _ => 0, ?_, by omega, fun k hk => absurd hk (Nat.not_lt_zero _), fun k hk => absurd hk (Nat.not_lt_zero _)⟩, ?_, by show 0 ≤ 256; omega, fun j c h => ?_⟩
  · exact (e 159 34 (by omega) (by omega) (by omega)).trans (hI 159 34 (by omega) (by omega) (by omega))
  · exact (e 159 42 (by omega) (by omega) (by omega)).trans (hI 159 42 (by omega) (by omega) (by omega))
  · have h' : ([] : List Nat)[j]? = some c := h
    simp at h'
set_option maxRecDepth 20000 in
set_option maxHeartbeats 8000000 in
theorem l_X11i {I I0 : Nat → Nat → Int32} {L : Nat → Nat → Int64} {R : Nat → Nat → Option Nat} (hR : aRf R) (hf : ∀ c, c < 12 → I 197 (2 * c) = nI (uN c) ∧ I 197 (2 * c + 1) = nI (dN c)) (hI : ∀ q j, 159 ≤ q → (q < 168 ∨ 170 < q) → q ≠ 197 → I q j = 0) (hlo : ∀ q j, q < 159 → I q j = I0 q j) (hw : ∀ i, i < 5 → I 170 i = nI (w0 i)) : ∀ (k9 c : Nat), c ≤ 12 → 12 - c = k9 → ∀ I1 : Nat → Nat → Int32, mPt I I1 c → aX mX11_init aE0 (sh0, I1, L, R) 518 [(0, .ref 159), (1, .ref 197), (2, .int (nI c))] [] 0 0 (fun ans h' => ans = none ∧ ∃ I' R', h' = (sh0, I', L, R') ∧ aRf R' ∧ mmRep I' L z0 ∧ ∀ q j, q < 159 → I' q j = I0 q j) := by
  intro k9
  induction k9 using Nat.strongRecOn with
  | _ k9 ih =>
    intro c hi hk9 I1 hin
    refine aX_iload_n dX11_init_518 rfl ?_
    refine aX_bipush (v := nI 12) dX11_init_519 (by decide) ?_
    refine nGe (tgt := 547) dX11_init_521 (by decide) (by first | omega | exact Nat.lt_of_le_of_lt (Nat.mod_le _ _) (by omega)) (by first | omega | exact Nat.lt_of_le_of_lt (Nat.mod_le _ _) (by omega)) (fun c1 => ?_) (fun c1 => ?_)
    · have he := mPt_end (show mPt I I1 12 from (show c = 12 by omega) ▸ hin)
      refine aX_aload_n dX11_init_547 rfl ?_
      refine cV (As := []) (st := []) dX11_init_548 kX11_init_136 s159 aEok0 rfl rfl (Nat.le_of_ble_eq_true rfl) (m_divide hR (s := sN) ⟨(he.2 159 0 (by omega)).trans (hI 159 0 (by omega) (by omega) (by omega)), fun i hi => absurd hi (Nat.not_lt_zero _)⟩ sN_ok he.1) (fun r h' hq => ?_)
      obtain ⟨rfl, I2, rfl, a1, a2, a3, a4, a5, a6, a7⟩ := hq
      refine ⟨rfl, ?_⟩
      exact rV dX11_init_551 rfl (⟨rfl, _, _, rfl, hR, mm_made hI hw he.2 a1 a2 a3 a4 a5 a6 a7, fun q j h => (a7 q j (by omega) (by omega)).trans ((he.2 q j (by omega)).trans (hlo q j h))⟩)
    · obtain ⟨r, hl, h1, h2, h3⟩ := hin
      refine aX_aload_n dX11_init_524 rfl ?_
      refine aX_iload_n dX11_init_525 rfl ?_
      refine aX_aload_n dX11_init_526 rfl ?_
      refine aX_iconst (v := nI 2) dX11_init_527 (by decide) ?_
      refine aX_iload_n dX11_init_528 rfl ?_
      refine nMul dX11_init_529 ?_
      refine nIald (v := nI (uN c)) dX11_init_530 s197 (by first | omega | exact Nat.lt_of_le_of_lt (Nat.mod_le _ _) (by omega)) (by decide) ((h3 197 _ (by omega)).trans (hf c (by omega)).1) ?_
      refine aX_aload_n dX11_init_531 rfl ?_
      refine aX_iconst (v := nI 2) dX11_init_532 (by decide) ?_
      refine aX_iload_n dX11_init_533 rfl ?_
      refine nMul dX11_init_534 ?_
      refine aX_iconst (v := nI 1) dX11_init_535 (by decide) ?_
      refine nAdd dX11_init_536 ?_
      refine nIald (v := nI (dN c)) dX11_init_537 s197 (by first | omega | exact Nat.lt_of_le_of_lt (Nat.mod_le _ _) (by omega)) (by decide) ((h3 197 _ (by omega)).trans (hf c (by omega)).2) ?_
      refine cV (As := [.int (nI (c)), .int (nI (uN c)), .int (nI (dN c))]) (st := []) dX11_init_538 kX11_init_132 s159 aEok0 rfl rfl (Nat.le_of_ble_eq_true rfl) (m_put hR hl (by omega) (by rw [h1 c (by omega), if_neg (by omega)]; omega) (ud_in c (by omega)).1 (ud_in c (by omega)).2.1 (ud_in c (by omega)).2.2.1 (ud_in c (by omega)).2.2.2) (fun r h' hq => ?_)
      obtain ⟨rfl, I2, rfl, hl2, hk2⟩ := hq
      refine ⟨rfl, ?_⟩
      refine nInc (lv' := [(0, .ref 159), (1, .ref 197), (2, .int (nI (c + 1)))]) dX11_init_541 rfl rfl (by decide) rfl ?_
      refine aX_goto (tgt := 518) dX11_init_544 (by decide) ?_
      exact ih (12 - (c + 1)) (by omega) (c + 1) (by omega) rfl _ (mPt_step (by omega) h1 h2 h3 hl2 hk2)
set_option maxRecDepth 20000 in
set_option maxHeartbeats 8000000 in
theorem i_X11_init {I0 : Nat → Nat → Int32} {L : Nat → Nat → Int64} (hz : FrZ 159 I0 L) : aM mX11_init [.ref 159] (shP 152, I0, L, RP116) (fun ans h' => ans = none ∧ ∃ I' R', h' = (sh0, I', L, R') ∧ aRf R' ∧ mmRep I' L z0 ∧ ∀ q j, q < 159 → I' q j = I0 q j) := by
  refine aM_of plX11_init (Nat.le_of_ble_eq_true rfl) ?_
  refine aX_aload_n dX11_init_0 rfl ?_
  refine aX_objInit (st := []) dX11_init_1 loX11_1 wO2 wO3 (Nat.le_of_ble_eq_true rfl) (Nat.le_of_ble_eq_true rfl) ?_
  refine aX_aload_n dX11_init_4 rfl ?_
  refine aX_bipush (v := nI 16) dX11_init_5 (by decide) ?_
  refine nNewa (id := 160) (sh' := shP 153) (bc' := 37) (bs' := 38121) (kd := 0) (N := 16) dX11_init_7 (by decide) wA_int (by decide) rfl (by decide) rfl rfl (fun a b r h => Nat.lt_of_lt_of_le (wP116 a b r h) (by decide)) (FrZ_at hz (by decide)) (fun j => oP116 _ j (by decide)) rfl (Nat.le_of_ble_eq_true rfl) (Nat.le_of_ble_eq_true rfl) rfl rfl ?_
  refine pR (R' := RP117) dX11_init_9 lfX11_7 (fun _ _ _ hq => by cases hq; exact Or.inr ⟨rfl, rfl⟩) (ci := 11) (f := 1) rfl (Or.inr ⟨_, rfl⟩) rfl ?_
  refine aX_aload_n dX11_init_12 rfl ?_
  refine aX_bipush (v := nI 16) dX11_init_13 (by decide) ?_
  refine nNewa (id := 161) (sh' := shP 154) (bc' := 36) (bs' := 38105) (kd := 0) (N := 16) dX11_init_15 (by decide) wA_int (by decide) rfl (by decide) rfl rfl (fun a b r h => Nat.lt_of_lt_of_le (wP117 a b r h) (by decide)) (FrZ_at hz (by decide)) (fun j => oP117 _ j (by decide)) rfl (Nat.le_of_ble_eq_true rfl) (Nat.le_of_ble_eq_true rfl) rfl rfl ?_
  refine pR (R' := RP118) dX11_init_17 lfX11_13 (fun _ _ _ hq => by cases hq; exact Or.inr ⟨rfl, rfl⟩) (ci := 11) (f := 2) rfl (Or.inr ⟨_, rfl⟩) rfl ?_
  refine aX_aload_n dX11_init_20 rfl ?_
  refine aX_bipush (v := nI 16) dX11_init_21 (by decide) ?_
  refine nNewa (id := 162) (sh' := shP 155) (bc' := 35) (bs' := 38089) (kd := 0) (N := 16) dX11_init_23 (by decide) wA_int (by decide) rfl (by decide) rfl rfl (fun a b r h => Nat.lt_of_lt_of_le (wP118 a b r h) (by decide)) (FrZ_at hz (by decide)) (fun j => oP118 _ j (by decide)) rfl (Nat.le_of_ble_eq_true rfl) (Nat.le_of_ble_eq_true rfl) rfl rfl ?_
  refine pR (R' := RP119) dX11_init_25 lfX11_16 (fun _ _ _ hq => by cases hq; exact Or.inr ⟨rfl, rfl⟩) (ci := 11) (f := 3) rfl (Or.inr ⟨_, rfl⟩) rfl ?_
  refine aX_aload_n dX11_init_28 rfl ?_
  refine aX_bipush (v := nI 16) dX11_init_29 (by decide) ?_
  refine nNewa (id := 163) (sh' := shP 156) (bc' := 34) (bs' := 38073) (kd := 1) (N := 16) dX11_init_31 (by decide) wA_boolean (by decide) rfl (by decide) rfl rfl (fun a b r h => Nat.lt_of_lt_of_le (wP119 a b r h) (by decide)) (FrZ_at hz (by decide)) (fun j => oP119 _ j (by decide)) rfl (Nat.le_of_ble_eq_true rfl) (Nat.le_of_ble_eq_true rfl) rfl rfl ?_
  refine pR (R' := RP120) dX11_init_33 lfX11_19 (fun _ _ _ hq => by cases hq; exact Or.inr ⟨rfl, rfl⟩) (ci := 11) (f := 4) rfl (Or.inr ⟨_, rfl⟩) rfl ?_
  refine aX_aload_n dX11_init_36 rfl ?_
  refine aX_bipush (v := nI 12) dX11_init_37 (by decide) ?_
  refine nNewa (id := 164) (sh' := shP 157) (bc' := 33) (bs' := 38061) (kd := 0) (N := 12) dX11_init_39 (by decide) wA_int (by decide) rfl (by decide) rfl rfl (fun a b r h => Nat.lt_of_lt_of_le (wP120 a b r h) (by decide)) (FrZ_at hz (by decide)) (fun j => oP120 _ j (by decide)) rfl (Nat.le_of_ble_eq_true rfl) (Nat.le_of_ble_eq_true rfl) rfl rfl ?_
  refine pR (R' := RP121) dX11_init_41 lfX11_23 (fun _ _ _ hq => by cases hq; exact Or.inr ⟨rfl, rfl⟩) (ci := 11) (f := 5) rfl (Or.inr ⟨_, rfl⟩) rfl ?_
  refine aX_aload_n dX11_init_44 rfl ?_
  refine aX_bipush (v := nI 36) dX11_init_45 (by decide) ?_
  refine nNewa (id := 165) (sh' := shP 158) (bc' := 32) (bs' := 38025) (kd := 0) (N := 36) dX11_init_47 (by decide) wA_int (by decide) rfl (by decide) rfl rfl (fun a b r h => Nat.lt_of_lt_of_le (wP121 a b r h) (by decide)) (FrZ_at hz (by decide)) (fun j => oP121 _ j (by decide)) rfl (Nat.le_of_ble_eq_true rfl) (Nat.le_of_ble_eq_true rfl) rfl rfl ?_
  refine pR (R' := RP122) dX11_init_49 lfX11_26 (fun _ _ _ hq => by cases hq; exact Or.inr ⟨rfl, rfl⟩) (ci := 11) (f := 6) rfl (Or.inr ⟨_, rfl⟩) rfl ?_
  refine aX_aload_n dX11_init_52 rfl ?_
  refine aX_bipush (v := nI 36) dX11_init_53 (by decide) ?_
  refine nNewa (id := 166) (sh' := shP 159) (bc' := 31) (bs' := 37989) (kd := 0) (N := 36) dX11_init_55 (by decide) wA_int (by decide) rfl (by decide) rfl rfl (fun a b r h => Nat.lt_of_lt_of_le (wP122 a b r h) (by decide)) (FrZ_at hz (by decide)) (fun j => oP122 _ j (by decide)) rfl (Nat.le_of_ble_eq_true rfl) (Nat.le_of_ble_eq_true rfl) rfl rfl ?_
  refine pR (R' := RP123) dX11_init_57 lfX11_29 (fun _ _ _ hq => by cases hq; exact Or.inr ⟨rfl, rfl⟩) (ci := 11) (f := 7) rfl (Or.inr ⟨_, rfl⟩) rfl ?_
  refine aX_aload_n dX11_init_60 rfl ?_
  refine aX_sipush (v := nI 216) dX11_init_61 (by decide) ?_
  refine nNewa (id := 167) (sh' := shP 160) (bc' := 30) (bs' := 37773) (kd := 0) (N := 216) dX11_init_64 (by decide) wA_int (by decide) rfl (by decide) rfl rfl (fun a b r h => Nat.lt_of_lt_of_le (wP123 a b r h) (by decide)) (FrZ_at hz (by decide)) (fun j => oP123 _ j (by decide)) rfl (Nat.le_of_ble_eq_true rfl) (Nat.le_of_ble_eq_true rfl) rfl rfl ?_
  refine pR (R' := RP124) dX11_init_66 lfX11_32 (fun _ _ _ hq => by cases hq; exact Or.inr ⟨rfl, rfl⟩) (ci := 11) (f := 8) rfl (Or.inr ⟨_, rfl⟩) rfl ?_
  refine aX_aload_n dX11_init_69 rfl ?_
  refine aX_bipush (v := nI 6) dX11_init_70 (by decide) ?_
  refine nNewa (id := 168) (sh' := shP 161) (bc' := 29) (bs' := 37767) (kd := 0) (N := 6) dX11_init_72 (by decide) wA_int (by decide) rfl (by decide) rfl rfl (fun a b r h => Nat.lt_of_lt_of_le (wP124 a b r h) (by decide)) (FrZ_at hz (by decide)) (fun j => oP124 _ j (by decide)) rfl (Nat.le_of_ble_eq_true rfl) (Nat.le_of_ble_eq_true rfl) rfl rfl ?_
  refine aX_dup dX11_init_74 rfl ?_
  refine aX_iconst (v := nI 0) dX11_init_75 (by decide) ?_
  refine aX_iconst (v := nI 2) dX11_init_76 (by decide) ?_
  refine nIast (n := 6) dX11_init_77 rfl (by decide) (by decide) ?_
  refine aX_dup dX11_init_78 rfl ?_
  refine aX_iconst (v := nI 1) dX11_init_79 (by decide) ?_
  refine aX_iconst (v := nI 3) dX11_init_80 (by decide) ?_
  refine nIast (n := 6) dX11_init_81 rfl (by decide) (by decide) ?_
  refine aX_dup dX11_init_82 rfl ?_
  refine aX_iconst (v := nI 2) dX11_init_83 (by decide) ?_
  refine aX_iconst (v := nI 5) dX11_init_84 (by decide) ?_
  refine nIast (n := 6) dX11_init_85 rfl (by decide) (by decide) ?_
  refine aX_dup dX11_init_86 rfl ?_
  refine aX_iconst (v := nI 3) dX11_init_87 (by decide) ?_
  refine aX_bipush (v := nI 7) dX11_init_88 (by decide) ?_
  refine nIast (n := 6) dX11_init_90 rfl (by decide) (by decide) ?_
  refine aX_dup dX11_init_91 rfl ?_
  refine aX_iconst (v := nI 4) dX11_init_92 (by decide) ?_
  refine aX_bipush (v := nI 11) dX11_init_93 (by decide) ?_
  refine nIast (n := 6) dX11_init_95 rfl (by decide) (by decide) ?_
  refine aX_dup dX11_init_96 rfl ?_
  refine aX_iconst (v := nI 5) dX11_init_97 (by decide) ?_
  refine aX_bipush (v := nI 13) dX11_init_98 (by decide) ?_
  refine nIast (n := 6) dX11_init_100 rfl (by decide) (by decide) ?_
  obtain ⟨Ia, hIa⟩ : ∃ y, y = (aU (aU (aU (aU (aU (aU I0 168 0 (nI 2)) 168 1 (nI 3)) 168 2 (nI 5)) 168 3 (nI 7)) 168 4 (nI 11)) 168 5 (nI 13)) := ⟨_, rfl⟩
  refine aX_heap (h' := (shP 161, Ia, L, RP124)) (by rw [hIa]) ?_
  have kIa : ∀ q j, q ≠ 168 → Ia q j = I0 q j := fun q j h => by rw [hIa]; rw [aU_n (by omega)]; rw [aU_n (by omega)]; rw [aU_n (by omega)]; rw [aU_n (by omega)]; rw [aU_n (by omega)]; rw [aU_n (by omega)]
  have vIa : Ia 168 0 = nI 2 ∧ Ia 168 1 = nI 3 ∧ Ia 168 2 = nI 5 ∧ Ia 168 3 = nI 7 ∧ Ia 168 4 = nI 11 ∧ Ia 168 5 = nI 13 := by rw [hIa]; exact ⟨rfl, rfl, rfl, rfl, rfl, rfl⟩
  have zIa : FrZ 169 Ia L := fun q j h => ⟨(kIa q j (by omega)).trans (hz q j (by omega)).1, (hz q j (by omega)).2⟩
  refine pR (R' := RP125) dX11_init_101 lfX11_35 (fun _ _ _ hq => by cases hq; exact Or.inr ⟨rfl, rfl⟩) (ci := 11) (f := 9) rfl (Or.inr ⟨_, rfl⟩) rfl ?_
  refine aX_aload_n dX11_init_104 rfl ?_
  refine aX_bipush (v := nI 6) dX11_init_105 (by decide) ?_
  refine nNewa (id := 169) (sh' := shP 162) (bc' := 28) (bs' := 37761) (kd := 0) (N := 6) dX11_init_107 (by decide) wA_int (by decide) rfl (by decide) rfl rfl (fun a b r h => Nat.lt_of_lt_of_le (wP125 a b r h) (by decide)) (FrZ_at zIa (by decide)) (fun j => oP125 _ j (by decide)) rfl (Nat.le_of_ble_eq_true rfl) (Nat.le_of_ble_eq_true rfl) rfl rfl ?_
  refine aX_dup dX11_init_109 rfl ?_
  refine aX_iconst (v := nI 0) dX11_init_110 (by decide) ?_
  refine aX_ldc (v := nI 120000) dX11_init_111 lkX11_38 ?_
  refine nIast (n := 6) dX11_init_113 rfl (by decide) (by decide) ?_
  refine aX_dup dX11_init_114 rfl ?_
  refine aX_iconst (v := nI 1) dX11_init_115 (by decide) ?_
  refine aX_ldc (v := nI 190196) dX11_init_116 lkX11_39 ?_
  refine nIast (n := 6) dX11_init_118 rfl (by decide) (by decide) ?_
  refine aX_dup dX11_init_119 rfl ?_
  refine aX_iconst (v := nI 2) dX11_init_120 (by decide) ?_
  refine aX_ldc (v := nI 278631) dX11_init_121 lkX11_40 ?_
  refine nIast (n := 6) dX11_init_123 rfl (by decide) (by decide) ?_
  refine aX_dup dX11_init_124 rfl ?_
  refine aX_iconst (v := nI 3) dX11_init_125 (by decide) ?_
  refine aX_ldc (v := nI 336883) dX11_init_126 lkX11_41 ?_
  refine nIast (n := 6) dX11_init_128 rfl (by decide) (by decide) ?_
  refine aX_dup dX11_init_129 rfl ?_
  refine aX_iconst (v := nI 4) dX11_init_130 (by decide) ?_
  refine aX_ldc (v := nI 415132) dX11_init_131 lkX11_42 ?_
  refine nIast (n := 6) dX11_init_133 rfl (by decide) (by decide) ?_
  refine aX_dup dX11_init_134 rfl ?_
  refine aX_iconst (v := nI 5) dX11_init_135 (by decide) ?_
  refine aX_ldc (v := nI 444053) dX11_init_136 lkX11_43 ?_
  refine nIast (n := 6) dX11_init_138 rfl (by decide) (by decide) ?_
  obtain ⟨Ib, hIb⟩ : ∃ y, y = (aU (aU (aU (aU (aU (aU Ia 169 0 (nI 120000)) 169 1 (nI 190196)) 169 2 (nI 278631)) 169 3 (nI 336883)) 169 4 (nI 415132)) 169 5 (nI 444053)) := ⟨_, rfl⟩
  refine aX_heap (h' := (shP 162, Ib, L, RP125)) (by rw [hIb]) ?_
  have kIb : ∀ q j, q ≠ 169 → Ib q j = Ia q j := fun q j h => by rw [hIb]; rw [aU_n (by omega)]; rw [aU_n (by omega)]; rw [aU_n (by omega)]; rw [aU_n (by omega)]; rw [aU_n (by omega)]; rw [aU_n (by omega)]
  have vIb : Ib 169 0 = nI 120000 ∧ Ib 169 1 = nI 190196 ∧ Ib 169 2 = nI 278631 ∧ Ib 169 3 = nI 336883 ∧ Ib 169 4 = nI 415132 ∧ Ib 169 5 = nI 444053 := by rw [hIb]; exact ⟨rfl, rfl, rfl, rfl, rfl, rfl⟩
  have zIb : FrZ 170 Ib L := fun q j h => ⟨(kIb q j (by omega)).trans (zIa q j (by omega)).1, (hz q j (by omega)).2⟩
  refine pR (R' := RP126) dX11_init_139 lfX11_44 (fun _ _ _ hq => by cases hq; exact Or.inr ⟨rfl, rfl⟩) (ci := 11) (f := 10) rfl (Or.inr ⟨_, rfl⟩) rfl ?_
  refine aX_aload_n dX11_init_142 rfl ?_
  refine aX_iconst (v := nI 5) dX11_init_143 (by decide) ?_
  refine nNewa (id := 170) (sh' := shP 163) (bc' := 27) (bs' := 37756) (kd := 0) (N := 5) dX11_init_144 (by decide) wA_int (by decide) rfl (by decide) rfl rfl (fun a b r h => Nat.lt_of_lt_of_le (wP126 a b r h) (by decide)) (FrZ_at zIb (by decide)) (fun j => oP126 _ j (by decide)) rfl (Nat.le_of_ble_eq_true rfl) (Nat.le_of_ble_eq_true rfl) rfl rfl ?_
  refine aX_dup dX11_init_146 rfl ?_
  refine aX_iconst (v := nI 0) dX11_init_147 (by decide) ?_
  refine aX_ldc (v := nI 100000) dX11_init_148 lkX11_47 ?_
  refine nIast (n := 5) dX11_init_150 rfl (by decide) (by decide) ?_
  refine aX_dup dX11_init_151 rfl ?_
  refine aX_iconst (v := nI 1) dX11_init_152 (by decide) ?_
  refine aX_iconst (v := nI 1) dX11_init_153 (by decide) ?_
  refine nIast (n := 5) dX11_init_154 rfl (by decide) (by decide) ?_
  refine aX_dup dX11_init_155 rfl ?_
  refine aX_iconst (v := nI 2) dX11_init_156 (by decide) ?_
  refine aX_iconst (v := nI 4) dX11_init_157 (by decide) ?_
  refine nIast (n := 5) dX11_init_158 rfl (by decide) (by decide) ?_
  refine aX_dup dX11_init_159 rfl ?_
  refine aX_iconst (v := nI 3) dX11_init_160 (by decide) ?_
  refine aX_iconst (v := nI 2) dX11_init_161 (by decide) ?_
  refine nIast (n := 5) dX11_init_162 rfl (by decide) (by decide) ?_
  refine aX_dup dX11_init_163 rfl ?_
  refine aX_iconst (v := nI 4) dX11_init_164 (by decide) ?_
  refine aX_iconst (v := nI 1) dX11_init_165 (by decide) ?_
  refine nIast (n := 5) dX11_init_166 rfl (by decide) (by decide) ?_
  obtain ⟨Ic, hIc⟩ : ∃ y, y = (aU (aU (aU (aU (aU Ib 170 0 (nI 100000)) 170 1 (nI 1)) 170 2 (nI 4)) 170 3 (nI 2)) 170 4 (nI 1)) := ⟨_, rfl⟩
  refine aX_heap (h' := (shP 163, Ic, L, RP126)) (by rw [hIc]) ?_
  have kIc : ∀ q j, q ≠ 170 → Ic q j = Ib q j := fun q j h => by rw [hIc]; rw [aU_n (by omega)]; rw [aU_n (by omega)]; rw [aU_n (by omega)]; rw [aU_n (by omega)]; rw [aU_n (by omega)]
  have vIc : Ic 170 0 = nI 100000 ∧ Ic 170 1 = nI 1 ∧ Ic 170 2 = nI 4 ∧ Ic 170 3 = nI 2 ∧ Ic 170 4 = nI 1 := by rw [hIc]; exact ⟨rfl, rfl, rfl, rfl, rfl⟩
  have zIc : FrZ 171 Ic L := fun q j h => ⟨(kIc q j (by omega)).trans (zIb q j (by omega)).1, (hz q j (by omega)).2⟩
  refine pR (R' := RP127) dX11_init_167 lfX11_48 (fun _ _ _ hq => by cases hq; exact Or.inr ⟨rfl, rfl⟩) (ci := 11) (f := 11) rfl (Or.inr ⟨_, rfl⟩) rfl ?_
  refine aX_aload_n dX11_init_170 rfl ?_
  refine aX_bipush (v := nI 32) dX11_init_171 (by decide) ?_
  refine nNewa (id := 171) (sh' := shP 164) (bc' := 26) (bs' := 37724) (kd := 0) (N := 32) dX11_init_173 (by decide) wA_int (by decide) rfl (by decide) rfl rfl (fun a b r h => Nat.lt_of_lt_of_le (wP127 a b r h) (by decide)) (FrZ_at zIc (by decide)) (fun j => oP127 _ j (by decide)) rfl (Nat.le_of_ble_eq_true rfl) (Nat.le_of_ble_eq_true rfl) rfl rfl ?_
  refine pR (R' := RP128) dX11_init_175 lfX11_51 (fun _ _ _ hq => by cases hq; exact Or.inr ⟨rfl, rfl⟩) (ci := 11) (f := 15) rfl (Or.inr ⟨_, rfl⟩) rfl ?_
  refine aX_aload_n dX11_init_178 rfl ?_
  refine aX_bipush (v := nI 32) dX11_init_179 (by decide) ?_
  refine nNewa (id := 172) (sh' := shP 165) (bc' := 25) (bs' := 37692) (kd := 0) (N := 32) dX11_init_181 (by decide) wA_int (by decide) rfl (by decide) rfl rfl (fun a b r h => Nat.lt_of_lt_of_le (wP128 a b r h) (by decide)) (FrZ_at zIc (by decide)) (fun j => oP128 _ j (by decide)) rfl (Nat.le_of_ble_eq_true rfl) (Nat.le_of_ble_eq_true rfl) rfl rfl ?_
  refine pR (R' := RP129) dX11_init_183 lfX11_54 (fun _ _ _ hq => by cases hq; exact Or.inr ⟨rfl, rfl⟩) (ci := 11) (f := 16) rfl (Or.inr ⟨_, rfl⟩) rfl ?_
  refine aX_aload_n dX11_init_186 rfl ?_
  refine aX_bipush (v := nI 32) dX11_init_187 (by decide) ?_
  refine nNewa (id := 173) (sh' := shP 166) (bc' := 24) (bs' := 37660) (kd := 0) (N := 32) dX11_init_189 (by decide) wA_int (by decide) rfl (by decide) rfl rfl (fun a b r h => Nat.lt_of_lt_of_le (wP129 a b r h) (by decide)) (FrZ_at zIc (by decide)) (fun j => oP129 _ j (by decide)) rfl (Nat.le_of_ble_eq_true rfl) (Nat.le_of_ble_eq_true rfl) rfl rfl ?_
  refine pR (R' := RP130) dX11_init_191 lfX11_57 (fun _ _ _ hq => by cases hq; exact Or.inr ⟨rfl, rfl⟩) (ci := 11) (f := 17) rfl (Or.inr ⟨_, rfl⟩) rfl ?_
  refine aX_aload_n dX11_init_194 rfl ?_
  refine aX_bipush (v := nI 32) dX11_init_195 (by decide) ?_
  refine nNewa (id := 174) (sh' := shP 167) (bc' := 23) (bs' := 37628) (kd := 0) (N := 32) dX11_init_197 (by decide) wA_int (by decide) rfl (by decide) rfl rfl (fun a b r h => Nat.lt_of_lt_of_le (wP130 a b r h) (by decide)) (FrZ_at zIc (by decide)) (fun j => oP130 _ j (by decide)) rfl (Nat.le_of_ble_eq_true rfl) (Nat.le_of_ble_eq_true rfl) rfl rfl ?_
  refine pR (R' := RP131) dX11_init_199 lfX11_60 (fun _ _ _ hq => by cases hq; exact Or.inr ⟨rfl, rfl⟩) (ci := 11) (f := 18) rfl (Or.inr ⟨_, rfl⟩) rfl ?_
  refine aX_aload_n dX11_init_202 rfl ?_
  refine aX_bipush (v := nI 32) dX11_init_203 (by decide) ?_
  refine nNewa (id := 175) (sh' := shP 168) (bc' := 22) (bs' := 37596) (kd := 0) (N := 32) dX11_init_205 (by decide) wA_int (by decide) rfl (by decide) rfl rfl (fun a b r h => Nat.lt_of_lt_of_le (wP131 a b r h) (by decide)) (FrZ_at zIc (by decide)) (fun j => oP131 _ j (by decide)) rfl (Nat.le_of_ble_eq_true rfl) (Nat.le_of_ble_eq_true rfl) rfl rfl ?_
  refine pR (R' := RP132) dX11_init_207 lfX11_63 (fun _ _ _ hq => by cases hq; exact Or.inr ⟨rfl, rfl⟩) (ci := 11) (f := 19) rfl (Or.inr ⟨_, rfl⟩) rfl ?_
  refine aX_aload_n dX11_init_210 rfl ?_
  refine aX_bipush (v := nI 32) dX11_init_211 (by decide) ?_
  refine nNewa (id := 176) (sh' := shP 169) (bc' := 21) (bs' := 37564) (kd := 0) (N := 32) dX11_init_213 (by decide) wA_int (by decide) rfl (by decide) rfl rfl (fun a b r h => Nat.lt_of_lt_of_le (wP132 a b r h) (by decide)) (FrZ_at zIc (by decide)) (fun j => oP132 _ j (by decide)) rfl (Nat.le_of_ble_eq_true rfl) (Nat.le_of_ble_eq_true rfl) rfl rfl ?_
  refine pR (R' := RP133) dX11_init_215 lfX11_66 (fun _ _ _ hq => by cases hq; exact Or.inr ⟨rfl, rfl⟩) (ci := 11) (f := 20) rfl (Or.inr ⟨_, rfl⟩) rfl ?_
  refine aX_aload_n dX11_init_218 rfl ?_
  refine aX_sipush (v := nI 512) dX11_init_219 (by decide) ?_
  refine nNewa (id := 177) (sh' := shP 170) (bc' := 20) (bs' := 37052) (kd := 0) (N := 512) dX11_init_222 (by decide) wA_int (by decide) rfl (by decide) rfl rfl (fun a b r h => Nat.lt_of_lt_of_le (wP133 a b r h) (by decide)) (FrZ_at zIc (by decide)) (fun j => oP133 _ j (by decide)) rfl (Nat.le_of_ble_eq_true rfl) (Nat.le_of_ble_eq_true rfl) rfl rfl ?_
  refine pR (R' := RP134) dX11_init_224 lfX11_69 (fun _ _ _ hq => by cases hq; exact Or.inr ⟨rfl, rfl⟩) (ci := 11) (f := 22) rfl (Or.inr ⟨_, rfl⟩) rfl ?_
  refine aX_aload_n dX11_init_227 rfl ?_
  refine aX_bipush (v := nI 32) dX11_init_228 (by decide) ?_
  refine nNewa (id := 178) (sh' := shP 171) (bc' := 19) (bs' := 37020) (kd := 0) (N := 32) dX11_init_230 (by decide) wA_int (by decide) rfl (by decide) rfl rfl (fun a b r h => Nat.lt_of_lt_of_le (wP134 a b r h) (by decide)) (FrZ_at zIc (by decide)) (fun j => oP134 _ j (by decide)) rfl (Nat.le_of_ble_eq_true rfl) (Nat.le_of_ble_eq_true rfl) rfl rfl ?_
  refine pR (R' := RP135) dX11_init_232 lfX11_72 (fun _ _ _ hq => by cases hq; exact Or.inr ⟨rfl, rfl⟩) (ci := 11) (f := 23) rfl (Or.inr ⟨_, rfl⟩) rfl ?_
  refine aX_aload_n dX11_init_235 rfl ?_
  refine aX_bipush (v := nI 32) dX11_init_236 (by decide) ?_
  refine nNewa (id := 179) (sh' := shP 172) (bc' := 18) (bs' := 36988) (kd := 0) (N := 32) dX11_init_238 (by decide) wA_int (by decide) rfl (by decide) rfl rfl (fun a b r h => Nat.lt_of_lt_of_le (wP135 a b r h) (by decide)) (FrZ_at zIc (by decide)) (fun j => oP135 _ j (by decide)) rfl (Nat.le_of_ble_eq_true rfl) (Nat.le_of_ble_eq_true rfl) rfl rfl ?_
  refine pR (R' := RP136) dX11_init_240 lfX11_75 (fun _ _ _ hq => by cases hq; exact Or.inr ⟨rfl, rfl⟩) (ci := 11) (f := 24) rfl (Or.inr ⟨_, rfl⟩) rfl ?_
  refine aX_aload_n dX11_init_243 rfl ?_
  refine aX_sipush (v := nI 2048) dX11_init_244 (by decide) ?_
  refine nNewa (id := 180) (sh' := shP 173) (bc' := 17) (bs' := 34940) (kd := 3) (N := 2048) dX11_init_247 (by decide) wA_long (by decide) rfl (by decide) rfl rfl (fun a b r h => Nat.lt_of_lt_of_le (wP136 a b r h) (by decide)) (FrZ_at zIc (by decide)) (fun j => oP136 _ j (by decide)) rfl (Nat.le_of_ble_eq_true rfl) (Nat.le_of_ble_eq_true rfl) rfl rfl ?_
  refine pR (R' := RP137) dX11_init_249 lfX11_78 (fun _ _ _ hq => by cases hq; exact Or.inr ⟨rfl, rfl⟩) (ci := 11) (f := 25) rfl (Or.inr ⟨_, rfl⟩) rfl ?_
  refine aX_aload_n dX11_init_252 rfl ?_
  refine aX_ldc (v := nI 32768) dX11_init_253 lkX11_82 ?_
  refine nNewa (id := 181) (sh' := shP 174) (bc' := 16) (bs' := 2172) (kd := 0) (N := 32768) dX11_init_255 (by decide) wA_int (by decide) rfl (by decide) rfl rfl (fun a b r h => Nat.lt_of_lt_of_le (wP137 a b r h) (by decide)) (FrZ_at zIc (by decide)) (fun j => oP137 _ j (by decide)) rfl (Nat.le_of_ble_eq_true rfl) (Nat.le_of_ble_eq_true rfl) rfl rfl ?_
  refine pR (R' := RP138) dX11_init_257 lfX11_83 (fun _ _ _ hq => by cases hq; exact Or.inr ⟨rfl, rfl⟩) (ci := 11) (f := 26) rfl (Or.inr ⟨_, rfl⟩) rfl ?_
  refine aX_aload_n dX11_init_260 rfl ?_
  refine aX_sipush (v := nI 400) dX11_init_261 (by decide) ?_
  refine nNewa (id := 182) (sh' := shP 175) (bc' := 15) (bs' := 1772) (kd := 3) (N := 400) dX11_init_264 (by decide) wA_long (by decide) rfl (by decide) rfl rfl (fun a b r h => Nat.lt_of_lt_of_le (wP138 a b r h) (by decide)) (FrZ_at zIc (by decide)) (fun j => oP138 _ j (by decide)) rfl (Nat.le_of_ble_eq_true rfl) (Nat.le_of_ble_eq_true rfl) rfl rfl ?_
  refine pR (R' := RP139) dX11_init_266 lfX11_86 (fun _ _ _ hq => by cases hq; exact Or.inr ⟨rfl, rfl⟩) (ci := 11) (f := 27) rfl (Or.inr ⟨_, rfl⟩) rfl ?_
  refine aX_aload_n dX11_init_269 rfl ?_
  refine aX_bipush (v := nI 20) dX11_init_270 (by decide) ?_
  refine nNewa (id := 183) (sh' := shP 176) (bc' := 14) (bs' := 1752) (kd := 3) (N := 20) dX11_init_272 (by decide) wA_long (by decide) rfl (by decide) rfl rfl (fun a b r h => Nat.lt_of_lt_of_le (wP139 a b r h) (by decide)) (FrZ_at zIc (by decide)) (fun j => oP139 _ j (by decide)) rfl (Nat.le_of_ble_eq_true rfl) (Nat.le_of_ble_eq_true rfl) rfl rfl ?_
  refine pR (R' := RP140) dX11_init_274 lfX11_89 (fun _ _ _ hq => by cases hq; exact Or.inr ⟨rfl, rfl⟩) (ci := 11) (f := 28) rfl (Or.inr ⟨_, rfl⟩) rfl ?_
  refine aX_aload_n dX11_init_277 rfl ?_
  refine aX_bipush (v := nI 20) dX11_init_278 (by decide) ?_
  refine nNewa (id := 184) (sh' := shP 177) (bc' := 13) (bs' := 1732) (kd := 0) (N := 20) dX11_init_280 (by decide) wA_int (by decide) rfl (by decide) rfl rfl (fun a b r h => Nat.lt_of_lt_of_le (wP140 a b r h) (by decide)) (FrZ_at zIc (by decide)) (fun j => oP140 _ j (by decide)) rfl (Nat.le_of_ble_eq_true rfl) (Nat.le_of_ble_eq_true rfl) rfl rfl ?_
  refine pR (R' := RP141) dX11_init_282 lfX11_92 (fun _ _ _ hq => by cases hq; exact Or.inr ⟨rfl, rfl⟩) (ci := 11) (f := 29) rfl (Or.inr ⟨_, rfl⟩) rfl ?_
  refine aX_aload_n dX11_init_285 rfl ?_
  refine aX_bipush (v := nI 20) dX11_init_286 (by decide) ?_
  refine nNewa (id := 185) (sh' := shP 178) (bc' := 12) (bs' := 1712) (kd := 0) (N := 20) dX11_init_288 (by decide) wA_int (by decide) rfl (by decide) rfl rfl (fun a b r h => Nat.lt_of_lt_of_le (wP141 a b r h) (by decide)) (FrZ_at zIc (by decide)) (fun j => oP141 _ j (by decide)) rfl (Nat.le_of_ble_eq_true rfl) (Nat.le_of_ble_eq_true rfl) rfl rfl ?_
  refine pR (R' := RP142) dX11_init_290 lfX11_95 (fun _ _ _ hq => by cases hq; exact Or.inr ⟨rfl, rfl⟩) (ci := 11) (f := 30) rfl (Or.inr ⟨_, rfl⟩) rfl ?_
  refine aX_aload_n dX11_init_293 rfl ?_
  refine aX_bipush (v := nI 20) dX11_init_294 (by decide) ?_
  refine nNewa (id := 186) (sh' := shP 179) (bc' := 11) (bs' := 1692) (kd := 1) (N := 20) dX11_init_296 (by decide) wA_boolean (by decide) rfl (by decide) rfl rfl (fun a b r h => Nat.lt_of_lt_of_le (wP142 a b r h) (by decide)) (FrZ_at zIc (by decide)) (fun j => oP142 _ j (by decide)) rfl (Nat.le_of_ble_eq_true rfl) (Nat.le_of_ble_eq_true rfl) rfl rfl ?_
  refine pR (R' := RP143) dX11_init_298 lfX11_98 (fun _ _ _ hq => by cases hq; exact Or.inr ⟨rfl, rfl⟩) (ci := 11) (f := 31) rfl (Or.inr ⟨_, rfl⟩) rfl ?_
  refine aX_aload_n dX11_init_301 rfl ?_
  refine aX_bipush (v := nI 40) dX11_init_302 (by decide) ?_
  refine nNewa (id := 187) (sh' := shP 180) (bc' := 10) (bs' := 1652) (kd := 3) (N := 40) dX11_init_304 (by decide) wA_long (by decide) rfl (by decide) rfl rfl (fun a b r h => Nat.lt_of_lt_of_le (wP143 a b r h) (by decide)) (FrZ_at zIc (by decide)) (fun j => oP143 _ j (by decide)) rfl (Nat.le_of_ble_eq_true rfl) (Nat.le_of_ble_eq_true rfl) rfl rfl ?_
  refine pR (R' := RP144) dX11_init_306 lfX11_101 (fun _ _ _ hq => by cases hq; exact Or.inr ⟨rfl, rfl⟩) (ci := 11) (f := 35) rfl (Or.inr ⟨_, rfl⟩) rfl ?_
  refine aX_aload_n dX11_init_309 rfl ?_
  refine aX_bipush (v := nI 14) dX11_init_310 (by decide) ?_
  refine nNewa (id := 188) (sh' := shP 181) (bc' := 9) (bs' := 1638) (kd := 3) (N := 14) dX11_init_312 (by decide) wA_long (by decide) rfl (by decide) rfl rfl (fun a b r h => Nat.lt_of_lt_of_le (wP144 a b r h) (by decide)) (FrZ_at zIc (by decide)) (fun j => oP144 _ j (by decide)) rfl (Nat.le_of_ble_eq_true rfl) (Nat.le_of_ble_eq_true rfl) rfl rfl ?_
  refine pR (R' := RP145) dX11_init_314 lfX11_104 (fun _ _ _ hq => by cases hq; exact Or.inr ⟨rfl, rfl⟩) (ci := 11) (f := 37) rfl (Or.inr ⟨_, rfl⟩) rfl ?_
  refine aX_aload_n dX11_init_317 rfl ?_
  refine aX_sipush (v := nI 308) dX11_init_318 (by decide) ?_
  refine nNewa (id := 189) (sh' := shP 182) (bc' := 8) (bs' := 1330) (kd := 3) (N := 308) dX11_init_321 (by decide) wA_long (by decide) rfl (by decide) rfl rfl (fun a b r h => Nat.lt_of_lt_of_le (wP145 a b r h) (by decide)) (FrZ_at zIc (by decide)) (fun j => oP145 _ j (by decide)) rfl (Nat.le_of_ble_eq_true rfl) (Nat.le_of_ble_eq_true rfl) rfl rfl ?_
  refine pR (R' := RP146) dX11_init_323 lfX11_107 (fun _ _ _ hq => by cases hq; exact Or.inr ⟨rfl, rfl⟩) (ci := 11) (f := 38) rfl (Or.inr ⟨_, rfl⟩) rfl ?_
  refine aX_aload_n dX11_init_326 rfl ?_
  refine aX_sipush (v := nI 420) dX11_init_327 (by decide) ?_
  refine nNewa (id := 190) (sh' := shP 183) (bc' := 7) (bs' := 910) (kd := 3) (N := 420) dX11_init_330 (by decide) wA_long (by decide) rfl (by decide) rfl rfl (fun a b r h => Nat.lt_of_lt_of_le (wP146 a b r h) (by decide)) (FrZ_at zIc (by decide)) (fun j => oP146 _ j (by decide)) rfl (Nat.le_of_ble_eq_true rfl) (Nat.le_of_ble_eq_true rfl) rfl rfl ?_
  refine pR (R' := RP147) dX11_init_332 lfX11_110 (fun _ _ _ hq => by cases hq; exact Or.inr ⟨rfl, rfl⟩) (ci := 11) (f := 39) rfl (Or.inr ⟨_, rfl⟩) rfl ?_
  refine aX_aload_n dX11_init_335 rfl ?_
  refine aX_sipush (v := nI 216) dX11_init_336 (by decide) ?_
  refine nNewa (id := 191) (sh' := shP 184) (bc' := 6) (bs' := 694) (kd := 3) (N := 216) dX11_init_339 (by decide) wA_long (by decide) rfl (by decide) rfl rfl (fun a b r h => Nat.lt_of_lt_of_le (wP147 a b r h) (by decide)) (FrZ_at zIc (by decide)) (fun j => oP147 _ j (by decide)) rfl (Nat.le_of_ble_eq_true rfl) (Nat.le_of_ble_eq_true rfl) rfl rfl ?_
  refine pR (R' := RP148) dX11_init_341 lfX11_113 (fun _ _ _ hq => by cases hq; exact Or.inr ⟨rfl, rfl⟩) (ci := 11) (f := 40) rfl (Or.inr ⟨_, rfl⟩) rfl ?_
  refine aX_aload_n dX11_init_344 rfl ?_
  refine aX_bipush (v := nI 14) dX11_init_345 (by decide) ?_
  refine nNewa (id := 192) (sh' := shP 185) (bc' := 5) (bs' := 680) (kd := 3) (N := 14) dX11_init_347 (by decide) wA_long (by decide) rfl (by decide) rfl rfl (fun a b r h => Nat.lt_of_lt_of_le (wP148 a b r h) (by decide)) (FrZ_at zIc (by decide)) (fun j => oP148 _ j (by decide)) rfl (Nat.le_of_ble_eq_true rfl) (Nat.le_of_ble_eq_true rfl) rfl rfl ?_
  refine pR (R' := RP149) dX11_init_349 lfX11_116 (fun _ _ _ hq => by cases hq; exact Or.inr ⟨rfl, rfl⟩) (ci := 11) (f := 41) rfl (Or.inr ⟨_, rfl⟩) rfl ?_
  refine aX_aload_n dX11_init_352 rfl ?_
  refine aX_sipush (v := nI 400) dX11_init_353 (by decide) ?_
  refine nNewa (id := 193) (sh' := shP 186) (bc' := 4) (bs' := 280) (kd := 2) (N := 400) dX11_init_356 (by decide) wA_byte (by decide) rfl (by decide) rfl rfl (fun a b r h => Nat.lt_of_lt_of_le (wP149 a b r h) (by decide)) (FrZ_at zIc (by decide)) (fun j => oP149 _ j (by decide)) rfl (Nat.le_of_ble_eq_true rfl) (Nat.le_of_ble_eq_true rfl) rfl rfl ?_
  refine pR (R' := RP150) dX11_init_358 lfX11_119 (fun _ _ _ hq => by cases hq; exact Or.inr ⟨rfl, rfl⟩) (ci := 11) (f := 43) rfl (Or.inr ⟨_, rfl⟩) rfl ?_
  refine aX_aload_n dX11_init_361 rfl ?_
  refine aX_sipush (v := nI 192) dX11_init_362 (by decide) ?_
  refine nNewa (id := 194) (sh' := shP 187) (bc' := 3) (bs' := 88) (kd := 0) (N := 192) dX11_init_365 (by decide) wA_int (by decide) rfl (by decide) rfl rfl (fun a b r h => Nat.lt_of_lt_of_le (wP150 a b r h) (by decide)) (FrZ_at zIc (by decide)) (fun j => oP150 _ j (by decide)) rfl (Nat.le_of_ble_eq_true rfl) (Nat.le_of_ble_eq_true rfl) rfl rfl ?_
  refine pR (R' := RP151) dX11_init_367 lfX11_123 (fun _ _ _ hq => by cases hq; exact Or.inr ⟨rfl, rfl⟩) (ci := 11) (f := 44) rfl (Or.inr ⟨_, rfl⟩) rfl ?_
  refine aX_aload_n dX11_init_370 rfl ?_
  refine aX_bipush (v := nI 32) dX11_init_371 (by decide) ?_
  refine nNewa (id := 195) (sh' := shP 188) (bc' := 2) (bs' := 56) (kd := 0) (N := 32) dX11_init_373 (by decide) wA_int (by decide) rfl (by decide) rfl rfl (fun a b r h => Nat.lt_of_lt_of_le (wP151 a b r h) (by decide)) (FrZ_at zIc (by decide)) (fun j => oP151 _ j (by decide)) rfl (Nat.le_of_ble_eq_true rfl) (Nat.le_of_ble_eq_true rfl) rfl rfl ?_
  refine pR (R' := RP152) dX11_init_375 lfX11_126 (fun _ _ _ hq => by cases hq; exact Or.inr ⟨rfl, rfl⟩) (ci := 11) (f := 45) rfl (Or.inr ⟨_, rfl⟩) rfl ?_
  refine aX_aload_n dX11_init_378 rfl ?_
  refine aX_bipush (v := nI 32) dX11_init_379 (by decide) ?_
  refine nNewa (id := 196) (sh' := shP 189) (bc' := 1) (bs' := 24) (kd := 0) (N := 32) dX11_init_381 (by decide) wA_int (by decide) rfl (by decide) rfl rfl (fun a b r h => Nat.lt_of_lt_of_le (wP152 a b r h) (by decide)) (FrZ_at zIc (by decide)) (fun j => oP152 _ j (by decide)) rfl (Nat.le_of_ble_eq_true rfl) (Nat.le_of_ble_eq_true rfl) rfl rfl ?_
  refine pR (R' := RP153) dX11_init_383 lfX11_129 (fun _ _ _ hq => by cases hq; exact Or.inr ⟨rfl, rfl⟩) (ci := 11) (f := 46) rfl (Or.inr ⟨_, rfl⟩) rfl ?_
  refine aX_bipush (v := nI 24) dX11_init_386 (by decide) ?_
  refine nNewa (id := 197) (sh' := shP 190) (bc' := 0) (bs' := 0) (kd := 0) (N := 24) dX11_init_388 (by decide) wA_int (by decide) rfl (by decide) rfl rfl (fun a b r h => Nat.lt_of_lt_of_le (wP153 a b r h) (by decide)) (FrZ_at zIc (by decide)) (fun j => oP153 _ j (by decide)) rfl (Nat.le_of_ble_eq_true rfl) (Nat.le_of_ble_eq_true rfl) rfl rfl ?_
  refine aX_dup dX11_init_390 rfl ?_
  refine aX_iconst (v := nI 0) dX11_init_391 (by decide) ?_
  refine aX_iconst (v := nI 1) dX11_init_392 (by decide) ?_
  refine nIast (n := 24) dX11_init_393 rfl (by decide) (by decide) ?_
  refine aX_dup dX11_init_394 rfl ?_
  refine aX_iconst (v := nI 1) dX11_init_395 (by decide) ?_
  refine aX_iconst (v := nI 1) dX11_init_396 (by decide) ?_
  refine nIast (n := 24) dX11_init_397 rfl (by decide) (by decide) ?_
  refine aX_dup dX11_init_398 rfl ?_
  refine aX_iconst (v := nI 2) dX11_init_399 (by decide) ?_
  refine aX_bipush (v := nI 16) dX11_init_400 (by decide) ?_
  refine nIast (n := 24) dX11_init_402 rfl (by decide) (by decide) ?_
  refine aX_dup dX11_init_403 rfl ?_
  refine aX_iconst (v := nI 3) dX11_init_404 (by decide) ?_
  refine aX_bipush (v := nI 15) dX11_init_405 (by decide) ?_
  refine nIast (n := 24) dX11_init_407 rfl (by decide) (by decide) ?_
  refine aX_dup dX11_init_408 rfl ?_
  refine aX_iconst (v := nI 4) dX11_init_409 (by decide) ?_
  refine aX_bipush (v := nI 9) dX11_init_410 (by decide) ?_
  refine nIast (n := 24) dX11_init_412 rfl (by decide) (by decide) ?_
  refine aX_dup dX11_init_413 rfl ?_
  refine aX_iconst (v := nI 5) dX11_init_414 (by decide) ?_
  refine aX_bipush (v := nI 8) dX11_init_415 (by decide) ?_
  refine nIast (n := 24) dX11_init_417 rfl (by decide) (by decide) ?_
  refine aX_dup dX11_init_418 rfl ?_
  refine aX_bipush (v := nI 6) dX11_init_419 (by decide) ?_
  refine aX_bipush (v := nI 6) dX11_init_421 (by decide) ?_
  refine nIast (n := 24) dX11_init_423 rfl (by decide) (by decide) ?_
  refine aX_dup dX11_init_424 rfl ?_
  refine aX_bipush (v := nI 7) dX11_init_425 (by decide) ?_
  refine aX_iconst (v := nI 5) dX11_init_427 (by decide) ?_
  refine nIast (n := 24) dX11_init_428 rfl (by decide) (by decide) ?_
  refine aX_dup dX11_init_429 rfl ?_
  refine aX_bipush (v := nI 8) dX11_init_430 (by decide) ?_
  refine aX_iconst (v := nI 5) dX11_init_432 (by decide) ?_
  refine nIast (n := 24) dX11_init_433 rfl (by decide) (by decide) ?_
  refine aX_dup dX11_init_434 rfl ?_
  refine aX_bipush (v := nI 9) dX11_init_435 (by decide) ?_
  refine aX_iconst (v := nI 4) dX11_init_437 (by decide) ?_
  refine nIast (n := 24) dX11_init_438 rfl (by decide) (by decide) ?_
  refine aX_dup dX11_init_439 rfl ?_
  refine aX_bipush (v := nI 10) dX11_init_440 (by decide) ?_
  refine aX_iconst (v := nI 4) dX11_init_442 (by decide) ?_
  refine nIast (n := 24) dX11_init_443 rfl (by decide) (by decide) ?_
  refine aX_dup dX11_init_444 rfl ?_
  refine aX_bipush (v := nI 11) dX11_init_445 (by decide) ?_
  refine aX_iconst (v := nI 3) dX11_init_447 (by decide) ?_
  refine nIast (n := 24) dX11_init_448 rfl (by decide) (by decide) ?_
  refine aX_dup dX11_init_449 rfl ?_
  refine aX_bipush (v := nI 12) dX11_init_450 (by decide) ?_
  refine aX_bipush (v := nI 45) dX11_init_452 (by decide) ?_
  refine nIast (n := 24) dX11_init_454 rfl (by decide) (by decide) ?_
  refine aX_dup dX11_init_455 rfl ?_
  refine aX_bipush (v := nI 13) dX11_init_456 (by decide) ?_
  refine aX_bipush (v := nI 32) dX11_init_458 (by decide) ?_
  refine nIast (n := 24) dX11_init_460 rfl (by decide) (by decide) ?_
  refine aX_dup dX11_init_461 rfl ?_
  refine aX_bipush (v := nI 14) dX11_init_462 (by decide) ?_
  refine aX_iconst (v := nI 3) dX11_init_464 (by decide) ?_
  refine nIast (n := 24) dX11_init_465 rfl (by decide) (by decide) ?_
  refine aX_dup dX11_init_466 rfl ?_
  refine aX_bipush (v := nI 15) dX11_init_467 (by decide) ?_
  refine aX_iconst (v := nI 2) dX11_init_469 (by decide) ?_
  refine nIast (n := 24) dX11_init_470 rfl (by decide) (by decide) ?_
  refine aX_dup dX11_init_471 rfl ?_
  refine aX_bipush (v := nI 16) dX11_init_472 (by decide) ?_
  refine aX_bipush (v := nI 8) dX11_init_474 (by decide) ?_
  refine nIast (n := 24) dX11_init_476 rfl (by decide) (by decide) ?_
  refine aX_dup dX11_init_477 rfl ?_
  refine aX_bipush (v := nI 17) dX11_init_478 (by decide) ?_
  refine aX_iconst (v := nI 5) dX11_init_480 (by decide) ?_
  refine nIast (n := 24) dX11_init_481 rfl (by decide) (by decide) ?_
  refine aX_dup dX11_init_482 rfl ?_
  refine aX_bipush (v := nI 18) dX11_init_483 (by decide) ?_
  refine aX_iconst (v := nI 5) dX11_init_485 (by decide) ?_
  refine nIast (n := 24) dX11_init_486 rfl (by decide) (by decide) ?_
  refine aX_dup dX11_init_487 rfl ?_
  refine aX_bipush (v := nI 19) dX11_init_488 (by decide) ?_
  refine aX_iconst (v := nI 3) dX11_init_490 (by decide) ?_
  refine nIast (n := 24) dX11_init_491 rfl (by decide) (by decide) ?_
  refine aX_dup dX11_init_492 rfl ?_
  refine aX_bipush (v := nI 20) dX11_init_493 (by decide) ?_
  refine aX_bipush (v := nI 9) dX11_init_495 (by decide) ?_
  refine nIast (n := 24) dX11_init_497 rfl (by decide) (by decide) ?_
  refine aX_dup dX11_init_498 rfl ?_
  refine aX_bipush (v := nI 21) dX11_init_499 (by decide) ?_
  refine aX_iconst (v := nI 5) dX11_init_501 (by decide) ?_
  refine nIast (n := 24) dX11_init_502 rfl (by decide) (by decide) ?_
  refine aX_dup dX11_init_503 rfl ?_
  refine aX_bipush (v := nI 22) dX11_init_504 (by decide) ?_
  refine aX_bipush (v := nI 15) dX11_init_506 (by decide) ?_
  refine nIast (n := 24) dX11_init_508 rfl (by decide) (by decide) ?_
  refine aX_dup dX11_init_509 rfl ?_
  refine aX_bipush (v := nI 23) dX11_init_510 (by decide) ?_
  refine aX_bipush (v := nI 8) dX11_init_512 (by decide) ?_
  refine nIast (n := 24) dX11_init_514 rfl (by decide) (by decide) ?_
  obtain ⟨Id, hId⟩ : ∃ y, y = (aU (aU (aU (aU (aU (aU (aU (aU (aU (aU (aU (aU (aU (aU (aU (aU (aU (aU (aU (aU (aU (aU (aU (aU Ic 197 0 (nI 1)) 197 1 (nI 1)) 197 2 (nI 16)) 197 3 (nI 15)) 197 4 (nI 9)) 197 5 (nI 8)) 197 6 (nI 6)) 197 7 (nI 5)) 197 8 (nI 5)) 197 9 (nI 4)) 197 10 (nI 4)) 197 11 (nI 3)) 197 12 (nI 45)) 197 13 (nI 32)) 197 14 (nI 3)) 197 15 (nI 2)) 197 16 (nI 8)) 197 17 (nI 5)) 197 18 (nI 5)) 197 19 (nI 3)) 197 20 (nI 9)) 197 21 (nI 5)) 197 22 (nI 15)) 197 23 (nI 8)) := ⟨_, rfl⟩
  refine aX_heap (h' := (shP 190, Id, L, RP153)) (by rw [hId]) ?_
  have kId : ∀ q j, q ≠ 197 → Id q j = Ic q j := fun q j h => by rw [hId]; rw [aU_n (by omega)]; rw [aU_n (by omega)]; rw [aU_n (by omega)]; rw [aU_n (by omega)]; rw [aU_n (by omega)]; rw [aU_n (by omega)]; rw [aU_n (by omega)]; rw [aU_n (by omega)]; rw [aU_n (by omega)]; rw [aU_n (by omega)]; rw [aU_n (by omega)]; rw [aU_n (by omega)]; rw [aU_n (by omega)]; rw [aU_n (by omega)]; rw [aU_n (by omega)]; rw [aU_n (by omega)]; rw [aU_n (by omega)]; rw [aU_n (by omega)]; rw [aU_n (by omega)]; rw [aU_n (by omega)]; rw [aU_n (by omega)]; rw [aU_n (by omega)]; rw [aU_n (by omega)]; rw [aU_n (by omega)]
  have vId : Id 197 0 = nI 1 ∧ Id 197 1 = nI 1 ∧ Id 197 2 = nI 16 ∧ Id 197 3 = nI 15 ∧ Id 197 4 = nI 9 ∧ Id 197 5 = nI 8 ∧ Id 197 6 = nI 6 ∧ Id 197 7 = nI 5 ∧ Id 197 8 = nI 5 ∧ Id 197 9 = nI 4 ∧ Id 197 10 = nI 4 ∧ Id 197 11 = nI 3 ∧ Id 197 12 = nI 45 ∧ Id 197 13 = nI 32 ∧ Id 197 14 = nI 3 ∧ Id 197 15 = nI 2 ∧ Id 197 16 = nI 8 ∧ Id 197 17 = nI 5 ∧ Id 197 18 = nI 5 ∧ Id 197 19 = nI 3 ∧ Id 197 20 = nI 9 ∧ Id 197 21 = nI 5 ∧ Id 197 22 = nI 15 ∧ Id 197 23 = nI 8 := by rw [hId]; exact ⟨rfl, rfl, rfl, rfl, rfl, rfl, rfl, rfl, rfl, rfl, rfl, rfl, rfl, rfl, rfl, rfl, rfl, rfl, rfl, rfl, rfl, rfl, rfl, rfl⟩
  have zId : FrZ 198 Id L := fun q j h => ⟨(kId q j (by omega)).trans (zIc q j (by omega)).1, (hz q j (by omega)).2⟩
  refine aX_astore_n (lv' := [(0, .ref 159), (1, .ref 197)]) dX11_init_515 (by decide) rfl ?_
  refine aX_iconst (v := nI 0) dX11_init_516 (by decide) ?_
  refine aX_istore_n (lv' := [(0, .ref 159), (1, .ref 197), (2, .int (nI (0)))]) dX11_init_517 (by decide) rfl ?_
  have hR : aRf RP153 := aRf_made
  refine aX_heap (h' := (sh0, Id, L, RP153)) (by rw [show shP 190 = sh0 from rfl]) ?_
  have hI : ∀ q j, 159 ≤ q → (q < 168 ∨ 170 < q) → q ≠ 197 → Id q j = 0 := fun q j h1 h2 h3 => by rw [kId q j h3, kIc q j (by omega), kIb q j (by omega), kIa q j (by omega)]; exact (hz q j h1).1
  have hlo : ∀ q j, q < 159 → Id q j = I0 q j := fun q j h => by rw [kId q j (by omega), kIc q j (by omega), kIb q j (by omega), kIa q j (by omega)]
  have e8 : ∀ j, Id 168 j = Ia 168 j := fun j => by rw [kId 168 j (by omega), kIc 168 j (by omega), kIb 168 j (by omega)]
  have e9 : ∀ j, Id 169 j = Ib 169 j := fun j => by rw [kId 169 j (by omega), kIc 169 j (by omega)]
  have e0 : ∀ j, Id 170 j = Ic 170 j := fun j => by rw [kId 170 j (by omega)]
  have hp : ∀ q, q < 6 → Id 168 q = nI (jP q) ∧ Id 169 q = jLg q := fun q hq => by
    rw [e8, e9]
    obtain ⟨a0, a1, a2, a3, a4, a5⟩ := vIa
    obtain ⟨b0, b1, b2, b3, b4, b5⟩ := vIb
    match q, hq with
    | 0, _ => exact ⟨a0, b0⟩
    | 1, _ => exact ⟨a1, b1⟩
    | 2, _ => exact ⟨a2, b2⟩
    | 3, _ => exact ⟨a3, b3⟩
    | 4, _ => exact ⟨a4, b4⟩
    | 5, _ => exact ⟨a5, b5⟩
    | n + 6, h => omega
  have hw : ∀ i, i < 5 → Id 170 i = nI (w0 i) := fun i hi => by
    rw [e0]
    obtain ⟨a0, a1, a2, a3, a4⟩ := vIc
    match i, hi with
    | 0, _ => exact a0
    | 1, _ => exact a1
    | 2, _ => exact a2
    | 3, _ => exact a3
    | 4, _ => exact a4
    | n + 5, h => omega
  have hf : ∀ c, c < 12 → Id 197 (2 * c) = nI (uN c) ∧ Id 197 (2 * c + 1) = nI (dN c) := fun c hc => by
    obtain ⟨a0, a1, a2, a3, a4, a5, a6, a7, a8, a9, a10, a11, a12, a13, a14, a15, a16, a17, a18, a19, a20, a21, a22, a23⟩ := vId
    match c, hc with
    | 0, _ => exact ⟨a0, a1⟩
    | 1, _ => exact ⟨a2, a3⟩
    | 2, _ => exact ⟨a4, a5⟩
    | 3, _ => exact ⟨a6, a7⟩
    | 4, _ => exact ⟨a8, a9⟩
    | 5, _ => exact ⟨a10, a11⟩
    | 6, _ => exact ⟨a12, a13⟩
    | 7, _ => exact ⟨a14, a15⟩
    | 8, _ => exact ⟨a16, a17⟩
    | 9, _ => exact ⟨a18, a19⟩
    | 10, _ => exact ⟨a20, a21⟩
    | 11, _ => exact ⟨a22, a23⟩
    | n + 12, h => omega
  exact l_X11i hR hf hI hlo hw _ 0 (by omega) rfl Id ⟨rE, mlRep_e (fun c => hI 164 c (by omega) (by omega) (by omega)) hp, fun c _ => (if_neg (Nat.not_lt_zero _)).symm, fun c h => absurd h (Nat.not_lt_zero _), fun _ _ _ => rfl⟩
