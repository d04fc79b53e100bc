/-! THE WORDS OF EACH METHOD, FIELD, CONSTANT -/
theorem aI1 {w : Cond} (i : Nat) (h : tables_1_1[i]? = some w) (g : goodWord w = true) : w ∈ aTb := aTb_in (List.mem_append_right _ (List.mem_append_left _ (List.mem_of_getElem? h))) g
theorem aI2 {w : Cond} (i : Nat) (h : tables_1_2[i]? = some w) (g : goodWord w = true) : w ∈ aTb := aTb_in (List.mem_append_right _ (List.mem_append_right _ (List.mem_append_left _ (List.mem_of_getElem? h)))) g
theorem aI3 {w : Cond} (i : Nat) (h : tables_1_3[i]? = some w) (g : goodWord w = true) : w ∈ aTb := aTb_in (List.mem_append_right _ (List.mem_append_right _ (List.mem_append_right _ (List.mem_append_left _ (List.mem_of_getElem? h))))) g
theorem aI4 {w : Cond} (i : Nat) (h : tables_1_4[i]? = some w) (g : goodWord w = true) : w ∈ aTb := aTb_in (List.mem_append_right _ (List.mem_append_right _ (List.mem_append_right _ (List.mem_append_right _ (List.mem_append_left _ (List.mem_of_getElem? h)))))) g
theorem aI5 {w : Cond} (i : Nat) (h : tables_1_5[i]? = some w) (g : goodWord w = true) : w ∈ aTb := aTb_in (List.mem_append_right _ (List.mem_append_right _ (List.mem_append_right _ (List.mem_append_right _ (List.mem_append_right _ (List.mem_append_left _ (List.mem_of_getElem? h))))))) g
theorem aI6 {w : Cond} (i : Nat) (h : tables_1_6[i]? = some w) (g : goodWord w = true) : w ∈ aTb := aTb_in (List.mem_append_right _ (List.mem_append_right _ (List.mem_append_right _ (List.mem_append_right _ (List.mem_append_right _ (List.mem_append_right _ (List.mem_of_getElem? h))))))) g
theorem aNi1 {w : Cond} {i : Nat} (h : tables_1_1[i]? = some w) : w ∈ lw_tbl := List.mem_append_right _ (List.mem_append_left _ (List.mem_of_getElem? h))
theorem aNi2 {w : Cond} {i : Nat} (h : tables_1_2[i]? = some w) : w ∈ lw_tbl := List.mem_append_right _ (List.mem_append_right _ (List.mem_append_left _ (List.mem_of_getElem? h)))
theorem aNi3 {w : Cond} {i : Nat} (h : tables_1_3[i]? = some w) : w ∈ lw_tbl := List.mem_append_right _ (List.mem_append_right _ (List.mem_append_right _ (List.mem_append_left _ (List.mem_of_getElem? h))))
theorem aNi4 {w : Cond} {i : Nat} (h : tables_1_4[i]? = some w) : w ∈ lw_tbl := List.mem_append_right _ (List.mem_append_right _ (List.mem_append_right _ (List.mem_append_right _ (List.mem_append_left _ (List.mem_of_getElem? h)))))
theorem aJ {w : Cond} (i : Nat) (h : (k2_sels lw_privs)[i]? = some w) (g : goodWord w = true) : w ∈ aTb := aTb_in (List.mem_append_left _ (List.mem_of_getElem? h)) g
theorem aC0 : ∀ w ∈ u_ws RX0 TX0 9, w ∈ aTb := by
  intro w hw
  obtain ⟨k, hk, rfl⟩ := List.mem_map.mp hw
  have hk := List.mem_range.mp hk
  rcases (show k = 0 ∨ k = 1 ∨ k = 2 ∨ k = 3 ∨ k = 4 ∨ k = 5 ∨ k = 6 ∨ k = 7 ∨ k = 8 by omega) with rfl | rfl | rfl | rfl | rfl | rfl | rfl | rfl | rfl
  · exact aI2 45 rfl rfl
  · exact aI2 47 rfl rfl
  · exact aI2 49 rfl rfl
  · exact aI2 51 rfl rfl
  · exact aI2 53 rfl rfl
  · exact aI2 55 rfl rfl
  · exact aI2 57 rfl rfl
  · exact aI2 59 rfl rfl
  · exact aI2 61 rfl rfl
theorem aCi0 : Cond.instantiable RX0 9 ∈ aTb := aI2 28 rfl rfl
theorem aCz0 : Cond.initialized RX0 ∈ aTb := aI1 10 rfl rfl
theorem aTk0 : ∀ k, k < 9 → aT 0 k = .int ∨ aT 0 k = .boolean ∨ aT 0 k = .long ∨ (∃ C, aT 0 k = .object C) ∨ ∃ t, aT 0 k = .array t := by
  intro k hk
  rcases (show k = 0 ∨ k = 1 ∨ k = 2 ∨ k = 3 ∨ k = 4 ∨ k = 5 ∨ k = 6 ∨ k = 7 ∨ k = 8 by omega) with rfl | rfl | rfl | rfl | rfl | rfl | rfl | rfl | rfl <;> first | exact Or.inl rfl | exact Or.inr (Or.inl rfl) | exact Or.inr (Or.inr (Or.inl rfl)) | exact Or.inr (Or.inr (Or.inr (Or.inl ⟨_, rfl⟩))) | exact Or.inr (Or.inr (Or.inr (Or.inr ⟨_, rfl⟩)))
theorem aC1 : ∀ w ∈ u_ws RX1 TX1 10, w ∈ aTb := by
  intro w hw
  obtain ⟨k, hk, rfl⟩ := List.mem_map.mp hw
  have hk := List.mem_range.mp hk
  rcases (show k = 0 ∨ k = 1 ∨ k = 2 ∨ k = 3 ∨ k = 4 ∨ k = 5 ∨ k = 6 ∨ k = 7 ∨ k = 8 ∨ k = 9 by omega) with rfl | rfl | rfl | rfl | rfl | rfl | rfl | rfl | rfl | rfl
  · exact aI2 5 rfl rfl
  · exact aI2 7 rfl rfl
  · exact aI2 9 rfl rfl
  · exact aI2 11 rfl rfl
  · exact aI2 13 rfl rfl
  · exact aI2 15 rfl rfl
  · exact aI2 17 rfl rfl
  · exact aI2 19 rfl rfl
  · exact aI2 21 rfl rfl
  · exact aI2 23 rfl rfl
theorem aCi1 : Cond.instantiable RX1 10 ∈ aTb := aI1 227 rfl rfl
theorem aCz1 : Cond.initialized RX1 ∈ aTb := aI1 9 rfl rfl
theorem aTk1 : ∀ k, k < 10 → aT 1 k = .int ∨ aT 1 k = .boolean ∨ aT 1 k = .long ∨ (∃ C, aT 1 k = .object C) ∨ ∃ t, aT 1 k = .array t := by
  intro k hk
  rcases (show k = 0 ∨ k = 1 ∨ k = 2 ∨ k = 3 ∨ k = 4 ∨ k = 5 ∨ k = 6 ∨ k = 7 ∨ k = 8 ∨ k = 9 by omega) with rfl | rfl | rfl | rfl | rfl | rfl | rfl | rfl | rfl | rfl <;> first | exact Or.inl rfl | exact Or.inr (Or.inl rfl) | exact Or.inr (Or.inr (Or.inl rfl)) | exact Or.inr (Or.inr (Or.inr (Or.inl ⟨_, rfl⟩))) | exact Or.inr (Or.inr (Or.inr (Or.inr ⟨_, rfl⟩)))
theorem aC2 : ∀ w ∈ u_ws RX2 TX2 4, w ∈ aTb := by
  intro w hw
  obtain ⟨k, hk, rfl⟩ := List.mem_map.mp hw
  have hk := List.mem_range.mp hk
  rcases (show k = 0 ∨ k = 1 ∨ k = 2 ∨ k = 3 by omega) with rfl | rfl | rfl | rfl
  · exact aI1 178 rfl rfl
  · exact aI1 180 rfl rfl
  · exact aI1 182 rfl rfl
  · exact aI1 184 rfl rfl
theorem aCi2 : Cond.instantiable RX2 4 ∈ aTb := aI1 151 rfl rfl
theorem aCz2 : Cond.initialized RX2 ∈ aTb := aI1 4 rfl rfl
theorem aTk2 : ∀ k, k < 4 → aT 2 k = .int ∨ aT 2 k = .boolean ∨ aT 2 k = .long ∨ (∃ C, aT 2 k = .object C) ∨ ∃ t, aT 2 k = .array t := by
  intro k hk
  rcases (show k = 0 ∨ k = 1 ∨ k = 2 ∨ k = 3 by omega) with rfl | rfl | rfl | rfl <;> first | exact Or.inl rfl | exact Or.inr (Or.inl rfl) | exact Or.inr (Or.inr (Or.inl rfl)) | exact Or.inr (Or.inr (Or.inr (Or.inl ⟨_, rfl⟩))) | exact Or.inr (Or.inr (Or.inr (Or.inr ⟨_, rfl⟩)))
theorem aC3 : ∀ w ∈ u_ws RX3 TX3 5, w ∈ aTb := by
  intro w hw
  obtain ⟨k, hk, rfl⟩ := List.mem_map.mp hw
  have hk := List.mem_range.mp hk
  rcases (show k = 0 ∨ k = 1 ∨ k = 2 ∨ k = 3 ∨ k = 4 by omega) with rfl | rfl | rfl | rfl | rfl
  · exact aI1 61 rfl rfl
  · exact aI1 63 rfl rfl
  · exact aI1 65 rfl rfl
  · exact aI1 67 rfl rfl
  · exact aI1 69 rfl rfl
theorem aCi3 : Cond.instantiable RX3 5 ∈ aTb := aI1 26 rfl rfl
theorem aCz3 : Cond.initialized RX3 ∈ aTb := aI1 2 rfl rfl
theorem aTk3 : ∀ k, k < 5 → aT 3 k = .int ∨ aT 3 k = .boolean ∨ aT 3 k = .long ∨ (∃ C, aT 3 k = .object C) ∨ ∃ t, aT 3 k = .array t := by
  intro k hk
  rcases (show k = 0 ∨ k = 1 ∨ k = 2 ∨ k = 3 ∨ k = 4 by omega) with rfl | rfl | rfl | rfl | rfl <;> first | exact Or.inl rfl | exact Or.inr (Or.inl rfl) | exact Or.inr (Or.inr (Or.inl rfl)) | exact Or.inr (Or.inr (Or.inr (Or.inl ⟨_, rfl⟩))) | exact Or.inr (Or.inr (Or.inr (Or.inr ⟨_, rfl⟩)))
theorem aC4 : ∀ w ∈ u_ws RX4 TX4 3, w ∈ aTb := by
  intro w hw
  obtain ⟨k, hk, rfl⟩ := List.mem_map.mp hw
  have hk := List.mem_range.mp hk
  rcases (show k = 0 ∨ k = 1 ∨ k = 2 by omega) with rfl | rfl | rfl
  · exact aI1 219 rfl rfl
  · exact aI1 221 rfl rfl
  · exact aI1 223 rfl rfl
theorem aCi4 : Cond.instantiable RX4 3 ∈ aTb := aI1 209 rfl rfl
theorem aCz4 : Cond.initialized RX4 ∈ aTb := aI1 8 rfl rfl
theorem aTk4 : ∀ k, k < 3 → aT 4 k = .int ∨ aT 4 k = .boolean ∨ aT 4 k = .long ∨ (∃ C, aT 4 k = .object C) ∨ ∃ t, aT 4 k = .array t := by
  intro k hk
  rcases (show k = 0 ∨ k = 1 ∨ k = 2 by omega) with rfl | rfl | rfl <;> first | exact Or.inl rfl | exact Or.inr (Or.inl rfl) | exact Or.inr (Or.inr (Or.inl rfl)) | exact Or.inr (Or.inr (Or.inr (Or.inl ⟨_, rfl⟩))) | exact Or.inr (Or.inr (Or.inr (Or.inr ⟨_, rfl⟩)))
theorem aC5 : ∀ w ∈ u_ws RX5 TX5 15, w ∈ aTb := by
  intro w hw
  obtain ⟨k, hk, rfl⟩ := List.mem_map.mp hw
  have hk := List.mem_range.mp hk
  rcases (show k = 0 ∨ k = 1 ∨ k = 2 ∨ k = 3 ∨ k = 4 ∨ k = 5 ∨ k = 6 ∨ k = 7 ∨ k = 8 ∨ k = 9 ∨ k = 10 ∨ k = 11 ∨ k = 12 ∨ k = 13 ∨ k = 14 by omega) with rfl | rfl | rfl | rfl | rfl | rfl | rfl | rfl | rfl | rfl | rfl | rfl | rfl | rfl | rfl
  · exact aI1 118 rfl rfl
  · exact aI1 120 rfl rfl
  · exact aI1 122 rfl rfl
  · exact aI1 124 rfl rfl
  · exact aI1 126 rfl rfl
  · exact aI1 128 rfl rfl
  · exact aI1 130 rfl rfl
  · exact aI1 132 rfl rfl
  · exact aI1 134 rfl rfl
  · exact aI1 136 rfl rfl
  · exact aI1 138 rfl rfl
  · exact aI1 140 rfl rfl
  · exact aI1 142 rfl rfl
  · exact aI1 144 rfl rfl
  · exact aI1 146 rfl rfl
theorem aCi5 : Cond.instantiable RX5 15 ∈ aTb := aI1 74 rfl rfl
theorem aCz5 : Cond.initialized RX5 ∈ aTb := aI1 3 rfl rfl
theorem aTk5 : ∀ k, k < 15 → aT 5 k = .int ∨ aT 5 k = .boolean ∨ aT 5 k = .long ∨ (∃ C, aT 5 k = .object C) ∨ ∃ t, aT 5 k = .array t := by
  intro k hk
  rcases (show k = 0 ∨ k = 1 ∨ k = 2 ∨ k = 3 ∨ k = 4 ∨ k = 5 ∨ k = 6 ∨ k = 7 ∨ k = 8 ∨ k = 9 ∨ k = 10 ∨ k = 11 ∨ k = 12 ∨ k = 13 ∨ k = 14 by omega) with rfl | rfl | rfl | rfl | rfl | rfl | rfl | rfl | rfl | rfl | rfl | rfl | rfl | rfl | rfl <;> first | exact Or.inl rfl | exact Or.inr (Or.inl rfl) | exact Or.inr (Or.inr (Or.inl rfl)) | exact Or.inr (Or.inr (Or.inr (Or.inl ⟨_, rfl⟩))) | exact Or.inr (Or.inr (Or.inr (Or.inr ⟨_, rfl⟩)))
theorem aC6 : ∀ w ∈ u_ws RX6 TX6 8, w ∈ aTb := by
  intro w hw
  obtain ⟨k, hk, rfl⟩ := List.mem_map.mp hw
  have hk := List.mem_range.mp hk
  rcases (show k = 0 ∨ k = 1 ∨ k = 2 ∨ k = 3 ∨ k = 4 ∨ k = 5 ∨ k = 6 ∨ k = 7 by omega) with rfl | rfl | rfl | rfl | rfl | rfl | rfl | rfl
  · exact aI2 127 rfl rfl
  · exact aI2 129 rfl rfl
  · exact aI2 131 rfl rfl
  · exact aI2 133 rfl rfl
  · exact aI2 135 rfl rfl
  · exact aI2 137 rfl rfl
  · exact aI2 139 rfl rfl
  · exact aI2 141 rfl rfl
theorem aCi6 : Cond.instantiable RX6 8 ∈ aTb := aI2 109 rfl rfl
theorem aCz6 : Cond.initialized RX6 ∈ aTb := aI1 12 rfl rfl
theorem aTk6 : ∀ k, k < 8 → aT 6 k = .int ∨ aT 6 k = .boolean ∨ aT 6 k = .long ∨ (∃ C, aT 6 k = .object C) ∨ ∃ t, aT 6 k = .array t := by
  intro k hk
  rcases (show k = 0 ∨ k = 1 ∨ k = 2 ∨ k = 3 ∨ k = 4 ∨ k = 5 ∨ k = 6 ∨ k = 7 by omega) with rfl | rfl | rfl | rfl | rfl | rfl | rfl | rfl <;> first | exact Or.inl rfl | exact Or.inr (Or.inl rfl) | exact Or.inr (Or.inr (Or.inl rfl)) | exact Or.inr (Or.inr (Or.inr (Or.inl ⟨_, rfl⟩))) | exact Or.inr (Or.inr (Or.inr (Or.inr ⟨_, rfl⟩)))
theorem aC7 : ∀ w ∈ u_ws RX7 TX7 10, w ∈ aTb := by
  intro w hw
  obtain ⟨k, hk, rfl⟩ := List.mem_map.mp hw
  have hk := List.mem_range.mp hk
  rcases (show k = 0 ∨ k = 1 ∨ k = 2 ∨ k = 3 ∨ k = 4 ∨ k = 5 ∨ k = 6 ∨ k = 7 ∨ k = 8 ∨ k = 9 by omega) with rfl | rfl | rfl | rfl | rfl | rfl | rfl | rfl | rfl | rfl
  · exact aI2 87 rfl rfl
  · exact aI2 89 rfl rfl
  · exact aI2 91 rfl rfl
  · exact aI2 93 rfl rfl
  · exact aI2 95 rfl rfl
  · exact aI2 97 rfl rfl
  · exact aI2 99 rfl rfl
  · exact aI2 101 rfl rfl
  · exact aI2 103 rfl rfl
  · exact aI2 105 rfl rfl
theorem aCi7 : Cond.instantiable RX7 10 ∈ aTb := aI2 65 rfl rfl
theorem aCz7 : Cond.initialized RX7 ∈ aTb := aI1 11 rfl rfl
theorem aTk7 : ∀ k, k < 10 → aT 7 k = .int ∨ aT 7 k = .boolean ∨ aT 7 k = .long ∨ (∃ C, aT 7 k = .object C) ∨ ∃ t, aT 7 k = .array t := by
  intro k hk
  rcases (show k = 0 ∨ k = 1 ∨ k = 2 ∨ k = 3 ∨ k = 4 ∨ k = 5 ∨ k = 6 ∨ k = 7 ∨ k = 8 ∨ k = 9 by omega) with rfl | rfl | rfl | rfl | rfl | rfl | rfl | rfl | rfl | rfl <;> first | exact Or.inl rfl | exact Or.inr (Or.inl rfl) | exact Or.inr (Or.inr (Or.inl rfl)) | exact Or.inr (Or.inr (Or.inr (Or.inl ⟨_, rfl⟩))) | exact Or.inr (Or.inr (Or.inr (Or.inr ⟨_, rfl⟩)))
theorem aC8 : ∀ w ∈ u_ws RX8 TX8 2, w ∈ aTb := by
  intro w hw
  obtain ⟨k, hk, rfl⟩ := List.mem_map.mp hw
  have hk := List.mem_range.mp hk
  rcases (show k = 0 ∨ k = 1 by omega) with rfl | rfl
  · exact aI1 197 rfl rfl
  · exact aI1 199 rfl rfl
theorem aCi8 : Cond.instantiable RX8 2 ∈ aTb := aI1 188 rfl rfl
theorem aCz8 : Cond.initialized RX8 ∈ aTb := aI1 6 rfl rfl
theorem aTk8 : ∀ k, k < 2 → aT 8 k = .int ∨ aT 8 k = .boolean ∨ aT 8 k = .long ∨ (∃ C, aT 8 k = .object C) ∨ ∃ t, aT 8 k = .array t := by
  intro k hk
  rcases (show k = 0 ∨ k = 1 by omega) with rfl | rfl <;> first | exact Or.inl rfl | exact Or.inr (Or.inl rfl) | exact Or.inr (Or.inr (Or.inl rfl)) | exact Or.inr (Or.inr (Or.inr (Or.inl ⟨_, rfl⟩))) | exact Or.inr (Or.inr (Or.inr (Or.inr ⟨_, rfl⟩)))
theorem aC9 : ∀ w ∈ u_ws RX9 TX9 2, w ∈ aTb := by
  intro w hw
  obtain ⟨k, hk, rfl⟩ := List.mem_map.mp hw
  have hk := List.mem_range.mp hk
  rcases (show k = 0 ∨ k = 1 by omega) with rfl | rfl
  · exact aI1 167 rfl rfl
  · exact aI1 169 rfl rfl
theorem aCi9 : Cond.instantiable RX9 2 ∈ aTb := aI1 157 rfl rfl
theorem aCz9 : Cond.initialized RX9 ∈ aTb := aI1 5 rfl rfl
theorem aTk9 : ∀ k, k < 2 → aT 9 k = .int ∨ aT 9 k = .boolean ∨ aT 9 k = .long ∨ (∃ C, aT 9 k = .object C) ∨ ∃ t, aT 9 k = .array t := by
  intro k hk
  rcases (show k = 0 ∨ k = 1 by omega) with rfl | rfl <;> first | exact Or.inl rfl | exact Or.inr (Or.inl rfl) | exact Or.inr (Or.inr (Or.inl rfl)) | exact Or.inr (Or.inr (Or.inr (Or.inl ⟨_, rfl⟩))) | exact Or.inr (Or.inr (Or.inr (Or.inr ⟨_, rfl⟩)))
theorem aC10 : ∀ w ∈ u_ws RX10 TX10 12, w ∈ aTb := by
  intro w hw
  obtain ⟨k, hk, rfl⟩ := List.mem_map.mp hw
  have hk := List.mem_range.mp hk
  rcases (show k = 0 ∨ k = 1 ∨ k = 2 ∨ k = 3 ∨ k = 4 ∨ k = 5 ∨ k = 6 ∨ k = 7 ∨ k = 8 ∨ k = 9 ∨ k = 10 ∨ k = 11 by omega) with rfl | rfl | rfl | rfl | rfl | rfl | rfl | rfl | rfl | rfl | rfl | rfl
  · exact aI2 156 rfl rfl
  · exact aI2 158 rfl rfl
  · exact aI2 160 rfl rfl
  · exact aI2 162 rfl rfl
  · exact aI2 164 rfl rfl
  · exact aI2 166 rfl rfl
  · exact aI2 168 rfl rfl
  · exact aI2 170 rfl rfl
  · exact aI2 172 rfl rfl
  · exact aI2 174 rfl rfl
  · exact aI2 176 rfl rfl
  · exact aI2 178 rfl rfl
theorem aCi10 : Cond.instantiable RX10 12 ∈ aTb := aI1 18 rfl rfl
theorem aCz10 : Cond.initialized RX10 ∈ aTb := aI1 1 rfl rfl
theorem aTk10 : ∀ k, k < 12 → aT 10 k = .int ∨ aT 10 k = .boolean ∨ aT 10 k = .long ∨ (∃ C, aT 10 k = .object C) ∨ ∃ t, aT 10 k = .array t := by
  intro k hk
  rcases (show k = 0 ∨ k = 1 ∨ k = 2 ∨ k = 3 ∨ k = 4 ∨ k = 5 ∨ k = 6 ∨ k = 7 ∨ k = 8 ∨ k = 9 ∨ k = 10 ∨ k = 11 by omega) with rfl | rfl | rfl | rfl | rfl | rfl | rfl | rfl | rfl | rfl | rfl | rfl <;> first | exact Or.inl rfl | exact Or.inr (Or.inl rfl) | exact Or.inr (Or.inr (Or.inl rfl)) | exact Or.inr (Or.inr (Or.inr (Or.inl ⟨_, rfl⟩))) | exact Or.inr (Or.inr (Or.inr (Or.inr ⟨_, rfl⟩)))
theorem aC11 : ∀ w ∈ u_ws RX11 TX11 47, w ∈ aTb := by
  intro w hw
  obtain ⟨k, hk, rfl⟩ := List.mem_map.mp hw
  have hk := List.mem_range.mp hk
  rcases (show k = 0 ∨ k = 1 ∨ k = 2 ∨ k = 3 ∨ k = 4 ∨ k = 5 ∨ k = 6 ∨ k = 7 ∨ k = 8 ∨ k = 9 ∨ k = 10 ∨ k = 11 ∨ k = 12 ∨ k = 13 ∨ k = 14 ∨ k = 15 ∨ k = 16 ∨ k = 17 ∨ k = 18 ∨ k = 19 ∨ k = 20 ∨ k = 21 ∨ k = 22 ∨ k = 23 ∨ k = 24 ∨ k = 25 ∨ k = 26 ∨ k = 27 ∨ k = 28 ∨ k = 29 ∨ k = 30 ∨ k = 31 ∨ k = 32 ∨ k = 33 ∨ k = 34 ∨ k = 35 ∨ k = 36 ∨ k = 37 ∨ k = 38 ∨ k = 39 ∨ k = 40 ∨ k = 41 ∨ k = 42 ∨ k = 43 ∨ k = 44 ∨ k = 45 ∨ k = 46 by omega) with rfl | rfl | rfl | rfl | rfl | rfl | rfl | rfl | rfl | rfl | rfl | rfl | rfl | rfl | rfl | rfl | rfl | rfl | rfl | rfl | rfl | rfl | rfl | rfl | rfl | rfl | rfl | rfl | rfl | rfl | rfl | rfl | rfl | rfl | rfl | rfl | rfl | rfl | rfl | rfl | rfl | rfl | rfl | rfl | rfl | rfl | rfl
  · exact aI5 96 rfl rfl
  · exact aI5 98 rfl rfl
  · exact aI5 100 rfl rfl
  · exact aI5 102 rfl rfl
  · exact aI5 104 rfl rfl
  · exact aI5 106 rfl rfl
  · exact aI5 108 rfl rfl
  · exact aI5 110 rfl rfl
  · exact aI5 112 rfl rfl
  · exact aI5 114 rfl rfl
  · exact aI5 116 rfl rfl
  · exact aI5 118 rfl rfl
  · exact aI5 120 rfl rfl
  · exact aI5 122 rfl rfl
  · exact aI5 124 rfl rfl
  · exact aI5 126 rfl rfl
  · exact aI5 128 rfl rfl
  · exact aI5 130 rfl rfl
  · exact aI5 132 rfl rfl
  · exact aI5 134 rfl rfl
  · exact aI5 136 rfl rfl
  · exact aI5 138 rfl rfl
  · exact aI5 140 rfl rfl
  · exact aI5 142 rfl rfl
  · exact aI5 144 rfl rfl
  · exact aI5 146 rfl rfl
  · exact aI5 148 rfl rfl
  · exact aI5 150 rfl rfl
  · exact aI5 152 rfl rfl
  · exact aI5 154 rfl rfl
  · exact aI5 156 rfl rfl
  · exact aI5 158 rfl rfl
  · exact aI5 160 rfl rfl
  · exact aI5 162 rfl rfl
  · exact aI5 164 rfl rfl
  · exact aI5 166 rfl rfl
  · exact aI5 168 rfl rfl
  · exact aI5 170 rfl rfl
  · exact aI5 172 rfl rfl
  · exact aI5 174 rfl rfl
  · exact aI5 176 rfl rfl
  · exact aI5 178 rfl rfl
  · exact aI5 180 rfl rfl
  · exact aI5 182 rfl rfl
  · exact aI5 184 rfl rfl
  · exact aI5 186 rfl rfl
  · exact aI5 188 rfl rfl
theorem aCi11 : Cond.instantiable RX11 47 ∈ aTb := aI5 12 rfl rfl
theorem aCz11 : Cond.initialized RX11 ∈ aTb := aI1 13 rfl rfl
theorem aTk11 : ∀ k, k < 47 → aT 11 k = .int ∨ aT 11 k = .boolean ∨ aT 11 k = .long ∨ (∃ C, aT 11 k = .object C) ∨ ∃ t, aT 11 k = .array t := by
  intro k hk
  rcases (show k = 0 ∨ k = 1 ∨ k = 2 ∨ k = 3 ∨ k = 4 ∨ k = 5 ∨ k = 6 ∨ k = 7 ∨ k = 8 ∨ k = 9 ∨ k = 10 ∨ k = 11 ∨ k = 12 ∨ k = 13 ∨ k = 14 ∨ k = 15 ∨ k = 16 ∨ k = 17 ∨ k = 18 ∨ k = 19 ∨ k = 20 ∨ k = 21 ∨ k = 22 ∨ k = 23 ∨ k = 24 ∨ k = 25 ∨ k = 26 ∨ k = 27 ∨ k = 28 ∨ k = 29 ∨ k = 30 ∨ k = 31 ∨ k = 32 ∨ k = 33 ∨ k = 34 ∨ k = 35 ∨ k = 36 ∨ k = 37 ∨ k = 38 ∨ k = 39 ∨ k = 40 ∨ k = 41 ∨ k = 42 ∨ k = 43 ∨ k = 44 ∨ k = 45 ∨ k = 46 by omega) with rfl | rfl | rfl | rfl | rfl | rfl | rfl | rfl | rfl | rfl | rfl | rfl | rfl | rfl | rfl | rfl | rfl | rfl | rfl | rfl | rfl | rfl | rfl | rfl | rfl | rfl | rfl | rfl | rfl | rfl | rfl | rfl | rfl | rfl | rfl | rfl | rfl | rfl | rfl | rfl | rfl | rfl | rfl | rfl | rfl | rfl | rfl <;> first | exact Or.inl rfl | exact Or.inr (Or.inl rfl) | exact Or.inr (Or.inr (Or.inl rfl)) | exact Or.inr (Or.inr (Or.inr (Or.inl ⟨_, rfl⟩))) | exact Or.inr (Or.inr (Or.inr (Or.inr ⟨_, rfl⟩)))
theorem aCls (k : Nat) (C : String) (T : u_T) (N : Nat) (h : vwCl[k]? = some (C, T, N)) : (∀ w ∈ u_ws C T N, w ∈ aTb) ∧ Cond.instantiable C N ∈ aTb := by
  match k, h with
  | 0, h => cases h; exact ⟨aC0, aCi0⟩
  | 1, h => cases h; exact ⟨aC1, aCi1⟩
  | 2, h => cases h; exact ⟨aC2, aCi2⟩
  | 3, h => cases h; exact ⟨aC3, aCi3⟩
  | 4, h => cases h; exact ⟨aC4, aCi4⟩
  | 5, h => cases h; exact ⟨aC5, aCi5⟩
  | 6, h => cases h; exact ⟨aC6, aCi6⟩
  | 7, h => cases h; exact ⟨aC7, aCi7⟩
  | 8, h => cases h; exact ⟨aC8, aCi8⟩
  | 9, h => cases h; exact ⟨aC9, aCi9⟩
  | 10, h => cases h; exact ⟨aC10, aCi10⟩
  | 11, h => cases h; exact ⟨aC11, aCi11⟩
  | k + 12, h => simp at h
theorem aNs_in : ∀ w ∈ aNs, w ∈ lw_tbl := by
  intro w hw
  unfold aNs at hw
  simp only [List.mem_cons, List.not_mem_nil, or_false] at hw
  rcases hw with rfl | rfl | rfl | rfl | rfl | rfl | rfl | rfl | rfl | rfl | rfl
  · exact aNi1 (i := 31) rfl
  · exact aNi1 (i := 33) rfl
  · exact aNi1 (i := 43) rfl
  · exact aNi1 (i := 48) rfl
  · exact aNi1 (i := 75) rfl
  · exact aNi1 (i := 152) rfl
  · exact aNi1 (i := 158) rfl
  · exact aNi1 (i := 189) rfl
  · exact aNi2 (i := 117) rfl
  · exact aNi3 (i := 210) rfl
  · exact aNi4 (i := 37) rfl
