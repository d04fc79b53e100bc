theorem pd0 : (parseMethodDescriptor "()I").map (fun d => d.parameters.length) = some 0 := by decide +kernel
theorem pd1 : (parseMethodDescriptor "()J").map (fun d => d.parameters.length) = some 0 := by decide +kernel
theorem pd2 : (parseMethodDescriptor "()V").map (fun d => d.parameters.length) = some 0 := by decide +kernel
theorem pd3 : (parseMethodDescriptor "(I)I").map (fun d => d.parameters.length) = some 1 := by decide +kernel
theorem pd4 : (parseMethodDescriptor "(I)V").map (fun d => d.parameters.length) = some 1 := by decide +kernel
theorem pd5 : (parseMethodDescriptor "(I)Z").map (fun d => d.parameters.length) = some 1 := by decide +kernel
theorem pd6 : (parseMethodDescriptor "(II)I").map (fun d => d.parameters.length) = some 2 := by decide +kernel
theorem pd7 : (parseMethodDescriptor "(II)J").map (fun d => d.parameters.length) = some 2 := by decide +kernel
theorem pd8 : (parseMethodDescriptor "(II)V").map (fun d => d.parameters.length) = some 2 := by decide +kernel
theorem pd9 : (parseMethodDescriptor "(II)Z").map (fun d => d.parameters.length) = some 2 := by decide +kernel
theorem pd10 : (parseMethodDescriptor "(III)I").map (fun d => d.parameters.length) = some 3 := by decide +kernel
theorem pd11 : (parseMethodDescriptor "(III)J").map (fun d => d.parameters.length) = some 3 := by decide +kernel
theorem pd12 : (parseMethodDescriptor "(III)V").map (fun d => d.parameters.length) = some 3 := by decide +kernel
theorem pd13 : (parseMethodDescriptor "(III)Z").map (fun d => d.parameters.length) = some 3 := by decide +kernel
theorem pd14 : (parseMethodDescriptor "(IIII)I").map (fun d => d.parameters.length) = some 4 := by decide +kernel
theorem pd15 : (parseMethodDescriptor "(IIII)V").map (fun d => d.parameters.length) = some 4 := by decide +kernel
theorem pd16 : (parseMethodDescriptor "(IIJ)V").map (fun d => d.parameters.length) = some 3 := by decide +kernel
theorem pd17 : (parseMethodDescriptor "(IIJJ)V").map (fun d => d.parameters.length) = some 4 := by decide +kernel
theorem pd18 : (parseMethodDescriptor "(IJI)V").map (fun d => d.parameters.length) = some 3 := by decide +kernel
theorem pd19 : (parseMethodDescriptor "(IJJ)V").map (fun d => d.parameters.length) = some 3 := by decide +kernel
theorem pd20 : (parseMethodDescriptor "(IZ)I").map (fun d => d.parameters.length) = some 2 := by decide +kernel
theorem pd21 : (parseMethodDescriptor "(IZ)Z").map (fun d => d.parameters.length) = some 2 := by decide +kernel
theorem pd22 : (parseMethodDescriptor "(I[I)V").map (fun d => d.parameters.length) = some 2 := by decide +kernel
theorem pd23 : (parseMethodDescriptor "(J)J").map (fun d => d.parameters.length) = some 1 := by decide +kernel
theorem pd24 : (parseMethodDescriptor "(J)V").map (fun d => d.parameters.length) = some 1 := by decide +kernel
theorem pd25 : (parseMethodDescriptor "(J)Z").map (fun d => d.parameters.length) = some 1 := by decide +kernel
theorem pd26 : (parseMethodDescriptor "(JJ)J").map (fun d => d.parameters.length) = some 2 := by decide +kernel
theorem pd27 : (parseMethodDescriptor "(J[J)Z").map (fun d => d.parameters.length) = some 2 := by decide +kernel
theorem pd28 : (parseMethodDescriptor "(LJustMoves$Fraction;)I").map (fun d => d.parameters.length) = some 1 := by decide +kernel
theorem pd29 : (parseMethodDescriptor "(LJustMoves$Score;LJustMoves$Ratios;)V").map (fun d => d.parameters.length) = some 2 := by decide +kernel
theorem pd30 : (parseMethodDescriptor "(LJustMoves$Score;LJustMoves$Ratios;LJustMoves$Readings;LJustMoves$Choice;)V").map (fun d => d.parameters.length) = some 4 := by decide +kernel
theorem pd31 : (parseMethodDescriptor "(LJustMoves$Score;LJustMoves$Readings;LJustMoves$Choice;[I)V").map (fun d => d.parameters.length) = some 4 := by decide +kernel
theorem pd32 : (parseMethodDescriptor "(LJustMoves$Score;LJustMoves$Readings;[I)V").map (fun d => d.parameters.length) = some 3 := by decide +kernel
theorem pd33 : (parseMethodDescriptor "(LJustMoves$Squares;)V").map (fun d => d.parameters.length) = some 1 := by decide +kernel
theorem pd34 : (parseMethodDescriptor "(LJustMoves$Whole;)I").map (fun d => d.parameters.length) = some 1 := by decide +kernel
theorem pd35 : (parseMethodDescriptor "(LJustMoves$Whole;)V").map (fun d => d.parameters.length) = some 1 := by decide +kernel
theorem pd36 : (parseMethodDescriptor "(LJustMoves$Whole;LJustMoves$Whole;)V").map (fun d => d.parameters.length) = some 2 := by decide +kernel
theorem pd37 : (parseMethodDescriptor "(LJustMoves$Whole;LJustMoves$Whole;I)V").map (fun d => d.parameters.length) = some 3 := by decide +kernel
theorem pd38 : (parseMethodDescriptor "(Z)I").map (fun d => d.parameters.length) = some 1 := by decide +kernel
theorem pd39 : (parseMethodDescriptor "([I)Z").map (fun d => d.parameters.length) = some 1 := by decide +kernel
theorem pd40 : (parseMethodDescriptor "([II)V").map (fun d => d.parameters.length) = some 2 := by decide +kernel
theorem pd41 : (parseMethodDescriptor "([JJ)V").map (fun d => d.parameters.length) = some 2 := by decide +kernel
theorem pkX0 : plainName RX0 = true := by decide +kernel
theorem pkX1 : plainName RX1 = true := by decide +kernel
theorem pkX2 : plainName RX2 = true := by decide +kernel
theorem pkX3 : plainName RX3 = true := by decide +kernel
theorem pkX4 : plainName RX4 = true := by decide +kernel
theorem pkX5 : plainName RX5 = true := by decide +kernel
theorem pkX6 : plainName RX6 = true := by decide +kernel
theorem pkX7 : plainName RX7 = true := by decide +kernel
theorem pkX8 : plainName RX8 = true := by decide +kernel
theorem pkX9 : plainName RX9 = true := by decide +kernel
theorem pkX10 : plainName RX10 = true := by decide +kernel
theorem pkX11 : plainName RX11 = true := by decide +kernel
def mX0_init : aMd := (yX0_init, cX0_init, 5, none, { frames := 1, cells := 3, slots := 248, locals := 20 })
theorem wmX0_init : aWm mX0_init := ⟨aI2 31 rfl rfl, aI1 10 rfl rfl, by decide, by decide⟩
theorem pnX0_init : aPn mX0_init 4 := pd30
theorem plX0_init : plainFor mX0_init.1 = true := plainFor_of_name pkX0
theorem wiX0_init : Cond.instanceMethod mX0_init.1 ∈ aTb := aI2 30 rfl rfl
def mX0_make : aMd := (yX0_make, cX0_make, 2, none, { frames := 5, cells := 0, slots := 0, locals := 119 })
theorem wmX0_make : aWm mX0_make := ⟨aI3 189 rfl rfl, aI1 10 rfl rfl, by decide, by decide⟩
theorem pnX0_make : aPn mX0_make 0 := pd2
theorem plX0_make : plainFor mX0_make.1 = true := plainFor_of_name pkX0
theorem wiX0_make : Cond.instanceMethod mX0_make.1 ∈ aTb := aI3 187 rfl rfl
theorem wlX0_make : Cond.selects mX0_make.1.cls mX0_make.1 mX0_make.1 ∈ aTb := aI3 188 rfl rfl
def mX0_begin : aMd := (yX0_begin, cX0_begin, 3, none, { frames := 0, cells := 0, slots := 0, locals := 0 })
theorem wmX0_begin : aWm mX0_begin := ⟨aI3 205 rfl rfl, aI1 10 rfl rfl, by decide, by decide⟩
theorem pnX0_begin : aPn mX0_begin 1 := pd4
theorem plX0_begin : plainFor mX0_begin.1 = true := plainFor_of_name pkX0
theorem wiX0_begin : Cond.instanceMethod mX0_begin.1 ∈ aTb := aI3 204 rfl rfl
theorem wlX0_begin : Cond.selects mX0_begin.1.cls mX0_begin.1 mX0_begin.1 ∈ aTb := aJ 19 rfl rfl
def mX0_goOn : aMd := (yX0_goOn, cX0_goOn, 3, none, { frames := 4, cells := 0, slots := 0, locals := 97 })
theorem wmX0_goOn : aWm mX0_goOn := ⟨aI3 194 rfl rfl, aI1 10 rfl rfl, by decide, by decide⟩
theorem pnX0_goOn : aPn mX0_goOn 2 := pd8
theorem plX0_goOn : plainFor mX0_goOn.1 = true := plainFor_of_name pkX0
theorem wiX0_goOn : Cond.instanceMethod mX0_goOn.1 ∈ aTb := aI3 193 rfl rfl
theorem wlX0_goOn : Cond.selects mX0_goOn.1.cls mX0_goOn.1 mX0_goOn.1 ∈ aTb := aJ 17 rfl rfl
def mX0_multiply : aMd := (yX0_multiply, cX0_multiply, 7, none, { frames := 3, cells := 0, slots := 0, locals := 71 })
theorem wmX0_multiply : aWm mX0_multiply := ⟨aI3 199 rfl rfl, aI1 10 rfl rfl, by decide, by decide⟩
theorem pnX0_multiply : aPn mX0_multiply 4 := pd15
theorem plX0_multiply : plainFor mX0_multiply.1 = true := plainFor_of_name pkX0
theorem wiX0_multiply : Cond.instanceMethod mX0_multiply.1 ∈ aTb := aI3 198 rfl rfl
theorem wlX0_multiply : Cond.selects mX0_multiply.1.cls mX0_multiply.1 mX0_multiply.1 ∈ aTb := aJ 18 rfl rfl
def mX0_driftOf : aMd := (yX0_driftOf, cX0_driftOf, 4, some .int, { frames := 1, cells := 0, slots := 0, locals := 21 })
theorem wmX0_driftOf : aWm mX0_driftOf := ⟨aI3 209 rfl rfl, aI1 10 rfl rfl, by decide, by decide⟩
theorem pnX0_driftOf : aPn mX0_driftOf 1 := pd3
theorem plX0_driftOf : plainFor mX0_driftOf.1 = true := plainFor_of_name pkX0
theorem wiX0_driftOf : Cond.instanceMethod mX0_driftOf.1 ∈ aTb := aI3 208 rfl rfl
theorem wlX0_driftOf : Cond.selects mX0_driftOf.1.cls mX0_driftOf.1 mX0_driftOf.1 ∈ aTb := aJ 20 rfl rfl
def mX0_findPump : aMd := (yX0_findPump, cX0_findPump, 5, some .boolean, { frames := 2, cells := 0, slots := 0, locals := 43 })
theorem wmX0_findPump : aWm mX0_findPump := ⟨aI5 2 rfl rfl, aI1 10 rfl rfl, by decide, by decide⟩
theorem pnX0_findPump : aPn mX0_findPump 1 := pd5
theorem plX0_findPump : plainFor mX0_findPump.1 = true := plainFor_of_name pkX0
theorem wiX0_findPump : Cond.instanceMethod mX0_findPump.1 ∈ aTb := aI5 0 rfl rfl
theorem wlX0_findPump : Cond.selects mX0_findPump.1.cls mX0_findPump.1 mX0_findPump.1 ∈ aTb := aI5 1 rfl rfl
def mX0_isPump : aMd := (yX0_isPump, cX0_isPump, 3, some .boolean, { frames := 1, cells := 0, slots := 0, locals := 21 })
theorem wmX0_isPump : aWm mX0_isPump := ⟨aI5 6 rfl rfl, aI1 10 rfl rfl, by decide, by decide⟩
theorem pnX0_isPump : aPn mX0_isPump 2 := pd9
theorem plX0_isPump : plainFor mX0_isPump.1 = true := plainFor_of_name pkX0
theorem wiX0_isPump : Cond.instanceMethod mX0_isPump.1 ∈ aTb := aI5 5 rfl rfl
theorem wlX0_isPump : Cond.selects mX0_isPump.1.cls mX0_isPump.1 mX0_isPump.1 ∈ aTb := aJ 47 rfl rfl
def mX0_ofPump : aMd := (yX0_ofPump, cX0_ofPump, 2, some .int, { frames := 0, cells := 0, slots := 0, locals := 0 })
theorem wmX0_ofPump : aWm mX0_ofPump := ⟨aI5 10 rfl rfl, aI1 10 rfl rfl, by decide, by decide⟩
theorem pnX0_ofPump : aPn mX0_ofPump 1 := pd3
theorem plX0_ofPump : plainFor mX0_ofPump.1 = true := plainFor_of_name pkX0
theorem wiX0_ofPump : Cond.instanceMethod mX0_ofPump.1 ∈ aTb := aI5 8 rfl rfl
theorem wlX0_ofPump : Cond.selects mX0_ofPump.1.cls mX0_ofPump.1 mX0_ofPump.1 ∈ aTb := aI5 9 rfl rfl
def mX1_init : aMd := (yX1_init, cX1_init, 4, none, { frames := 1, cells := 7, slots := 2942, locals := 20 })
theorem wmX1_init : aWm mX1_init := ⟨aI1 230 rfl rfl, aI1 9 rfl rfl, by decide, by decide⟩
theorem pnX1_init : aPn mX1_init 3 := pd32
theorem plX1_init : plainFor mX1_init.1 = true := plainFor_of_name pkX1
theorem wiX1_init : Cond.instanceMethod mX1_init.1 ∈ aTb := aI1 229 rfl rfl
def mX1_make : aMd := (yX1_make, cX1_make, 2, some .long, { frames := 5, cells := 0, slots := 0, locals := 118 })
theorem wmX1_make : aWm mX1_make := ⟨aI3 142 rfl rfl, aI1 9 rfl rfl, by decide, by decide⟩
theorem pnX1_make : aPn mX1_make 0 := pd1
theorem plX1_make : plainFor mX1_make.1 = true := plainFor_of_name pkX1
theorem wiX1_make : Cond.instanceMethod mX1_make.1 ∈ aTb := aI3 140 rfl rfl
theorem wlX1_make : Cond.selects mX1_make.1.cls mX1_make.1 mX1_make.1 ∈ aTb := aI3 141 rfl rfl
def mX1_countReadings : aMd := (yX1_countReadings, cX1_countReadings, 2, none, { frames := 3, cells := 0, slots := 0, locals := 68 })
theorem wmX1_countReadings : aWm mX1_countReadings := ⟨aI3 146 rfl rfl, aI1 9 rfl rfl, by decide, by decide⟩
theorem pnX1_countReadings : aPn mX1_countReadings 0 := pd2
theorem plX1_countReadings : plainFor mX1_countReadings.1 = true := plainFor_of_name pkX1
theorem wiX1_countReadings : Cond.instanceMethod mX1_countReadings.1 ∈ aTb := aI3 145 rfl rfl
theorem wlX1_countReadings : Cond.selects mX1_countReadings.1.cls mX1_countReadings.1 mX1_countReadings.1 ∈ aTb := aJ 10 rfl rfl
def mX1_weighReadings : aMd := (yX1_weighReadings, cX1_weighReadings, 3, none, { frames := 3, cells := 0, slots := 0, locals := 71 })
theorem wmX1_weighReadings : aWm mX1_weighReadings := ⟨aI3 152 rfl rfl, aI1 9 rfl rfl, by decide, by decide⟩
theorem pnX1_weighReadings : aPn mX1_weighReadings 1 := pd4
theorem plX1_weighReadings : plainFor mX1_weighReadings.1 = true := plainFor_of_name pkX1
theorem wiX1_weighReadings : Cond.instanceMethod mX1_weighReadings.1 ∈ aTb := aI3 151 rfl rfl
theorem wlX1_weighReadings : Cond.selects mX1_weighReadings.1.cls mX1_weighReadings.1 mX1_weighReadings.1 ∈ aTb := aJ 11 rfl rfl
def mX1_joinNext : aMd := (yX1_joinNext, cX1_joinNext, 3, none, { frames := 4, cells := 0, slots := 0, locals := 96 })
theorem wmX1_joinNext : aWm mX1_joinNext := ⟨aI3 158 rfl rfl, aI1 9 rfl rfl, by decide, by decide⟩
theorem pnX1_joinNext : aPn mX1_joinNext 1 := pd4
theorem plX1_joinNext : plainFor mX1_joinNext.1 = true := plainFor_of_name pkX1
theorem wiX1_joinNext : Cond.instanceMethod mX1_joinNext.1 ∈ aTb := aI3 157 rfl rfl
theorem wlX1_joinNext : Cond.selects mX1_joinNext.1.cls mX1_joinNext.1 mX1_joinNext.1 ∈ aTb := aJ 12 rfl rfl
def mX1_fillOffsets : aMd := (yX1_fillOffsets, cX1_fillOffsets, 6, none, { frames := 3, cells := 0, slots := 0, locals := 71 })
theorem wmX1_fillOffsets : aWm mX1_fillOffsets := ⟨aI3 166 rfl rfl, aI1 9 rfl rfl, by decide, by decide⟩
theorem pnX1_fillOffsets : aPn mX1_fillOffsets 2 := pd22
theorem plX1_fillOffsets : plainFor mX1_fillOffsets.1 = true := plainFor_of_name pkX1
theorem wiX1_fillOffsets : Cond.instanceMethod mX1_fillOffsets.1 ∈ aTb := aI3 165 rfl rfl
theorem wlX1_fillOffsets : Cond.selects mX1_fillOffsets.1.cls mX1_fillOffsets.1 mX1_fillOffsets.1 ∈ aTb := aJ 13 rfl rfl
def mX1_joinReading : aMd := (yX1_joinReading, cX1_joinReading, 9, none, { frames := 1, cells := 0, slots := 0, locals := 30 })
theorem wmX1_joinReading : aWm mX1_joinReading := ⟨aI3 175 rfl rfl, aI1 9 rfl rfl, by decide, by decide⟩
theorem pnX1_joinReading : aPn mX1_joinReading 2 := pd8
theorem plX1_joinReading : plainFor mX1_joinReading.1 = true := plainFor_of_name pkX1
theorem wiX1_joinReading : Cond.instanceMethod mX1_joinReading.1 ∈ aTb := aI3 174 rfl rfl
theorem wlX1_joinReading : Cond.selects mX1_joinReading.1.cls mX1_joinReading.1 mX1_joinReading.1 ∈ aTb := aJ 14 rfl rfl
def mX1_strain : aMd := (yX1_strain, cX1_strain, 11, some .long, { frames := 0, cells := 0, slots := 0, locals := 0 })
theorem wmX1_strain : aWm mX1_strain := ⟨aI3 180 rfl rfl, aI1 9 rfl rfl, by decide, by decide⟩
theorem pnX1_strain : aPn mX1_strain 2 := pd7
theorem plX1_strain : plainFor mX1_strain.1 = true := plainFor_of_name pkX1
theorem wiX1_strain : Cond.instanceMethod mX1_strain.1 ∈ aTb := aI3 179 rfl rfl
theorem wlX1_strain : Cond.selects mX1_strain.1.cls mX1_strain.1 mX1_strain.1 ∈ aTb := aJ 15 rfl rfl
def mX1_followLeast : aMd := (yX1_followLeast, cX1_followLeast, 5, some .long, { frames := 0, cells := 0, slots := 0, locals := 0 })
theorem wmX1_followLeast : aWm mX1_followLeast := ⟨aI3 185 rfl rfl, aI1 9 rfl rfl, by decide, by decide⟩
theorem pnX1_followLeast : aPn mX1_followLeast 0 := pd1
theorem plX1_followLeast : plainFor mX1_followLeast.1 = true := plainFor_of_name pkX1
theorem wiX1_followLeast : Cond.instanceMethod mX1_followLeast.1 ∈ aTb := aI3 184 rfl rfl
theorem wlX1_followLeast : Cond.selects mX1_followLeast.1.cls mX1_followLeast.1 mX1_followLeast.1 ∈ aTb := aJ 16 rfl rfl
def mX2_init : aMd := (yX2_init, cX2_init, 1, none, { frames := 2, cells := 8, slots := 56, locals := 40 })
theorem wmX2_init : aWm mX2_init := ⟨aI1 154 rfl rfl, aI1 4 rfl rfl, by decide, by decide⟩
theorem pnX2_init : aPn mX2_init 0 := pd2
theorem plX2_init : plainFor mX2_init.1 = true := plainFor_of_name pkX2
theorem wiX2_init : Cond.instanceMethod mX2_init.1 ∈ aTb := aI1 153 rfl rfl
def mX2_take : aMd := (yX2_take, cX2_take, 3, none, { frames := 2, cells := 0, slots := 0, locals := 70 })
theorem wmX2_take : aWm mX2_take := ⟨aI4 114 rfl rfl, aI1 4 rfl rfl, by decide, by decide⟩
theorem pnX2_take : aPn mX2_take 2 := pd36
theorem plX2_take : plainFor mX2_take.1 = true := plainFor_of_name pkX2
theorem wiX2_take : Cond.instanceMethod mX2_take.1 ∈ aTb := aI4 112 rfl rfl
theorem wlX2_take : Cond.selects mX2_take.1.cls mX2_take.1 mX2_take.1 ∈ aTb := aI4 113 rfl rfl
def mX2_addWhole : aMd := (yX2_addWhole, cX2_addWhole, 2, none, { frames := 2, cells := 0, slots := 0, locals := 70 })
theorem wmX2_addWhole : aWm mX2_addWhole := ⟨aI4 127 rfl rfl, aI1 4 rfl rfl, by decide, by decide⟩
theorem pnX2_addWhole : aPn mX2_addWhole 1 := pd4
theorem plX2_addWhole : plainFor mX2_addWhole.1 = true := plainFor_of_name pkX2
theorem wiX2_addWhole : Cond.instanceMethod mX2_addWhole.1 ∈ aTb := aI4 125 rfl rfl
theorem wlX2_addWhole : Cond.selects mX2_addWhole.1.cls mX2_addWhole.1 mX2_addWhole.1 ∈ aTb := aI4 126 rfl rfl
def mX2_bringToLowestTerms : aMd := (yX2_bringToLowestTerms, cX2_bringToLowestTerms, 2, none, { frames := 3, cells := 0, slots := 0, locals := 93 })
theorem wmX2_bringToLowestTerms : aWm mX2_bringToLowestTerms := ⟨aI4 153 rfl rfl, aI1 4 rfl rfl, by decide, by decide⟩
theorem pnX2_bringToLowestTerms : aPn mX2_bringToLowestTerms 0 := pd2
theorem plX2_bringToLowestTerms : plainFor mX2_bringToLowestTerms.1 = true := plainFor_of_name pkX2
theorem wiX2_bringToLowestTerms : Cond.instanceMethod mX2_bringToLowestTerms.1 ∈ aTb := aI4 151 rfl rfl
theorem wlX2_bringToLowestTerms : Cond.selects mX2_bringToLowestTerms.1.cls mX2_bringToLowestTerms.1 mX2_bringToLowestTerms.1 ∈ aTb := aI4 152 rfl rfl
def mX2_findOddDivisor : aMd := (yX2_findOddDivisor, cX2_findOddDivisor, 4, none, { frames := 2, cells := 0, slots := 0, locals := 70 })
theorem wmX2_findOddDivisor : aWm mX2_findOddDivisor := ⟨aI4 178 rfl rfl, aI1 4 rfl rfl, by decide, by decide⟩
theorem pnX2_findOddDivisor : aPn mX2_findOddDivisor 0 := pd2
theorem plX2_findOddDivisor : plainFor mX2_findOddDivisor.1 = true := plainFor_of_name pkX2
theorem wiX2_findOddDivisor : Cond.instanceMethod mX2_findOddDivisor.1 ∈ aTb := aI4 177 rfl rfl
theorem wlX2_findOddDivisor : Cond.selects mX2_findOddDivisor.1.cls mX2_findOddDivisor.1 mX2_findOddDivisor.1 ∈ aTb := aJ 42 rfl rfl
def mX2_rounded : aMd := (yX2_rounded, cX2_rounded, 2, some .int, { frames := 3, cells := 0, slots := 0, locals := 92 })
theorem wmX2_rounded : aWm mX2_rounded := ⟨aI4 221 rfl rfl, aI1 4 rfl rfl, by decide, by decide⟩
theorem pnX2_rounded : aPn mX2_rounded 0 := pd0
theorem plX2_rounded : plainFor mX2_rounded.1 = true := plainFor_of_name pkX2
theorem wiX2_rounded : Cond.instanceMethod mX2_rounded.1 ∈ aTb := aI4 219 rfl rfl
theorem wlX2_rounded : Cond.selects mX2_rounded.1.cls mX2_rounded.1 mX2_rounded.1 ∈ aTb := aI4 220 rfl rfl
def mX2_quotientOfSizes : aMd := (yX2_quotientOfSizes, cX2_quotientOfSizes, 3, some .int, { frames := 2, cells := 0, slots := 0, locals := 70 })
theorem wmX2_quotientOfSizes : aWm mX2_quotientOfSizes := ⟨aI4 225 rfl rfl, aI1 4 rfl rfl, by decide, by decide⟩
theorem pnX2_quotientOfSizes : aPn mX2_quotientOfSizes 0 := pd0
theorem plX2_quotientOfSizes : plainFor mX2_quotientOfSizes.1 = true := plainFor_of_name pkX2
theorem wiX2_quotientOfSizes : Cond.instanceMethod mX2_quotientOfSizes.1 ∈ aTb := aI4 224 rfl rfl
theorem wlX2_quotientOfSizes : Cond.selects mX2_quotientOfSizes.1.cls mX2_quotientOfSizes.1 mX2_quotientOfSizes.1 ∈ aTb := aJ 46 rfl rfl
def mX3_init : aMd := (yX3_init, cX3_init, 2, none, { frames := 3, cells := 5, slots := 345, locals := 72 })
theorem wmX3_init : aWm mX3_init := ⟨aI1 29 rfl rfl, aI1 2 rfl rfl, by decide, by decide⟩
theorem pnX3_init : aPn mX3_init 0 := pd2
theorem plX3_init : plainFor mX3_init.1 = true := plainFor_of_name pkX3
theorem wiX3_init : Cond.instanceMethod mX3_init.1 ∈ aTb := aI1 28 rfl rfl
def mX3_isAllowed : aMd := (yX3_isAllowed, cX3_isAllowed, 2, some .boolean, { frames := 1, cells := 0, slots := 0, locals := 23 })
theorem wmX3_isAllowed : aWm mX3_isAllowed := ⟨aI3 21 rfl rfl, aI1 2 rfl rfl, by decide, by decide⟩
theorem pnX3_isAllowed : aPn mX3_isAllowed 2 := pd9
theorem plX3_isAllowed : plainFor mX3_isAllowed.1 = true := plainFor_of_name pkX3
theorem wsX3_isAllowed : Cond.static mX3_isAllowed.1 ∈ aTb := aI3 20 rfl rfl
def mX3_hasSmallPrimes : aMd := (yX3_hasSmallPrimes, cX3_hasSmallPrimes, 4, some .boolean, { frames := 0, cells := 0, slots := 0, locals := 0 })
theorem wmX3_hasSmallPrimes : aWm mX3_hasSmallPrimes := ⟨aI3 24 rfl rfl, aI1 2 rfl rfl, by decide, by decide⟩
theorem pnX3_hasSmallPrimes : aPn mX3_hasSmallPrimes 1 := pd5
theorem plX3_hasSmallPrimes : plainFor mX3_hasSmallPrimes.1 = true := plainFor_of_name pkX3
theorem wsX3_hasSmallPrimes : Cond.static mX3_hasSmallPrimes.1 ∈ aTb := aI3 23 rfl rfl
def mX3_shareSmallPrime : aMd := (yX3_shareSmallPrime, cX3_shareSmallPrime, 3, some .boolean, { frames := 0, cells := 0, slots := 0, locals := 0 })
theorem wmX3_shareSmallPrime : aWm mX3_shareSmallPrime := ⟨aI3 27 rfl rfl, aI1 2 rfl rfl, by decide, by decide⟩
theorem pnX3_shareSmallPrime : aPn mX3_shareSmallPrime 2 := pd9
theorem plX3_shareSmallPrime : plainFor mX3_shareSmallPrime.1 = true := plainFor_of_name pkX3
theorem wsX3_shareSmallPrime : Cond.static mX3_shareSmallPrime.1 ∈ aTb := aI3 26 rfl rfl
def mX3_powerIn : aMd := (yX3_powerIn, cX3_powerIn, 4, some .int, { frames := 0, cells := 0, slots := 0, locals := 0 })
theorem wmX3_powerIn : aWm mX3_powerIn := ⟨aI1 47 rfl rfl, aI1 2 rfl rfl, by decide, by decide⟩
theorem pnX3_powerIn : aPn mX3_powerIn 2 := pd6
theorem plX3_powerIn : plainFor mX3_powerIn.1 = true := plainFor_of_name pkX3
theorem wsX3_powerIn : Cond.static mX3_powerIn.1 ∈ aTb := aI1 46 rfl rfl
def mX3_holds : aMd := (yX3_holds, cX3_holds, 6, some .boolean, { frames := 0, cells := 0, slots := 0, locals := 0 })
theorem wmX3_holds : aWm mX3_holds := ⟨aI3 31 rfl rfl, aI1 2 rfl rfl, by decide, by decide⟩
theorem pnX3_holds : aPn mX3_holds 3 := pd13
theorem plX3_holds : plainFor mX3_holds.1 = true := plainFor_of_name pkX3
theorem wiX3_holds : Cond.instanceMethod mX3_holds.1 ∈ aTb := aI3 29 rfl rfl
theorem wlX3_holds : Cond.selects mX3_holds.1.cls mX3_holds.1 mX3_holds.1 ∈ aTb := aI3 30 rfl rfl
def mX3_append : aMd := (yX3_append, cX3_append, 5, some .int, { frames := 2, cells := 0, slots := 0, locals := 48 })
theorem wmX3_append : aWm mX3_append := ⟨aI1 38 rfl rfl, aI1 2 rfl rfl, by decide, by decide⟩
theorem pnX3_append : aPn mX3_append 3 := pd10
theorem plX3_append : plainFor mX3_append.1 = true := plainFor_of_name pkX3
theorem wiX3_append : Cond.instanceMethod mX3_append.1 ∈ aTb := aI1 36 rfl rfl
theorem wlX3_append : Cond.selects mX3_append.1.cls mX3_append.1 mX3_append.1 ∈ aTb := aI1 37 rfl rfl
def mX3_store : aMd := (yX3_store, cX3_store, 6, none, { frames := 1, cells := 0, slots := 0, locals := 23 })
theorem wmX3_store : aWm mX3_store := ⟨aI1 42 rfl rfl, aI1 2 rfl rfl, by decide, by decide⟩
theorem pnX3_store : aPn mX3_store 3 := pd12
theorem plX3_store : plainFor mX3_store.1 = true := plainFor_of_name pkX3
theorem wiX3_store : Cond.instanceMethod mX3_store.1 ∈ aTb := aI1 41 rfl rfl
theorem wlX3_store : Cond.selects mX3_store.1.cls mX3_store.1 mX3_store.1 ∈ aTb := aJ 0 rfl rfl
def mX3_removeAll : aMd := (yX3_removeAll, cX3_removeAll, 3, some .int, { frames := 0, cells := 0, slots := 0, locals := 0 })
theorem wmX3_removeAll : aWm mX3_removeAll := ⟨aI3 40 rfl rfl, aI1 2 rfl rfl, by decide, by decide⟩
theorem pnX3_removeAll : aPn mX3_removeAll 1 := pd3
theorem plX3_removeAll : plainFor mX3_removeAll.1 = true := plainFor_of_name pkX3
theorem wiX3_removeAll : Cond.instanceMethod mX3_removeAll.1 ∈ aTb := aI3 38 rfl rfl
theorem wlX3_removeAll : Cond.selects mX3_removeAll.1.cls mX3_removeAll.1 mX3_removeAll.1 ∈ aTb := aI3 39 rfl rfl
def mX3_harshness : aMd := (yX3_harshness, cX3_harshness, 6, some .int, { frames := 1, cells := 0, slots := 0, locals := 20 })
theorem wmX3_harshness : aWm mX3_harshness := ⟨aI3 119 rfl rfl, aI1 2 rfl rfl, by decide, by decide⟩
theorem pnX3_harshness : aPn mX3_harshness 2 := pd6
theorem plX3_harshness : plainFor mX3_harshness.1 = true := plainFor_of_name pkX3
theorem wiX3_harshness : Cond.instanceMethod mX3_harshness.1 ∈ aTb := aI3 117 rfl rfl
theorem wlX3_harshness : Cond.selects mX3_harshness.1.cls mX3_harshness.1 mX3_harshness.1 ∈ aTb := aI3 118 rfl rfl
def mX4_init : aMd := (yX4_init, cX4_init, 3, none, { frames := 1, cells := 1, slots := 16, locals := 20 })
theorem wmX4_init : aWm mX4_init := ⟨aI1 212 rfl rfl, aI1 8 rfl rfl, by decide, by decide⟩
theorem pnX4_init : aPn mX4_init 2 := pd29
theorem plX4_init : plainFor mX4_init.1 = true := plainFor_of_name pkX4
theorem wiX4_init : Cond.instanceMethod mX4_init.1 ∈ aTb := aI1 211 rfl rfl
def mX4_has : aMd := (yX4_has, cX4_has, 3, some .boolean, { frames := 3, cells := 0, slots := 0, locals := 68 })
theorem wmX4_has : aWm mX4_has := ⟨aI3 86 rfl rfl, aI1 8 rfl rfl, by decide, by decide⟩
theorem pnX4_has : aPn mX4_has 2 := pd9
theorem plX4_has : plainFor mX4_has.1 = true := plainFor_of_name pkX4
theorem wiX4_has : Cond.instanceMethod mX4_has.1 ∈ aTb := aI3 84 rfl rfl
theorem wlX4_has : Cond.selects mX4_has.1.cls mX4_has.1 mX4_has.1 ∈ aTb := aI3 85 rfl rfl
def mX4_countOf : aMd := (yX4_countOf, cX4_countOf, 5, some .int, { frames := 2, cells := 0, slots := 0, locals := 44 })
theorem wmX4_countOf : aWm mX4_countOf := ⟨aI3 62 rfl rfl, aI1 8 rfl rfl, by decide, by decide⟩
theorem pnX4_countOf : aPn mX4_countOf 1 := pd3
theorem plX4_countOf : plainFor mX4_countOf.1 = true := plainFor_of_name pkX4
theorem wiX4_countOf : Cond.instanceMethod mX4_countOf.1 ∈ aTb := aI3 60 rfl rfl
theorem wlX4_countOf : Cond.selects mX4_countOf.1.cls mX4_countOf.1 mX4_countOf.1 ∈ aTb := aI3 61 rfl rfl
def mX4_leastCount : aMd := (yX4_leastCount, cX4_leastCount, 3, some .int, { frames := 3, cells := 0, slots := 0, locals := 68 })
theorem wmX4_leastCount : aWm mX4_leastCount := ⟨aI3 130 rfl rfl, aI1 8 rfl rfl, by decide, by decide⟩
theorem pnX4_leastCount : aPn mX4_leastCount 0 := pd0
theorem plX4_leastCount : plainFor mX4_leastCount.1 = true := plainFor_of_name pkX4
theorem wiX4_leastCount : Cond.instanceMethod mX4_leastCount.1 ∈ aTb := aI3 128 rfl rfl
theorem wlX4_leastCount : Cond.selects mX4_leastCount.1.cls mX4_leastCount.1 mX4_leastCount.1 ∈ aTb := aI3 129 rfl rfl
def mX4_greatestCount : aMd := (yX4_greatestCount, cX4_greatestCount, 3, some .int, { frames := 3, cells := 0, slots := 0, locals := 68 })
theorem wmX4_greatestCount : aWm mX4_greatestCount := ⟨aI3 136 rfl rfl, aI1 8 rfl rfl, by decide, by decide⟩
theorem pnX4_greatestCount : aPn mX4_greatestCount 0 := pd0
theorem plX4_greatestCount : plainFor mX4_greatestCount.1 = true := plainFor_of_name pkX4
theorem wiX4_greatestCount : Cond.instanceMethod mX4_greatestCount.1 ∈ aTb := aI3 134 rfl rfl
theorem wlX4_greatestCount : Cond.selects mX4_greatestCount.1.cls mX4_greatestCount.1 mX4_greatestCount.1 ∈ aTb := aI3 135 rfl rfl
def mX4_stepsAboveBase : aMd := (yX4_stepsAboveBase, cX4_stepsAboveBase, 3, some .int, { frames := 0, cells := 0, slots := 0, locals := 0 })
theorem wmX4_stepsAboveBase : aWm mX4_stepsAboveBase := ⟨aI3 70 rfl rfl, aI1 8 rfl rfl, by decide, by decide⟩
theorem pnX4_stepsAboveBase : aPn mX4_stepsAboveBase 2 := pd6
theorem plX4_stepsAboveBase : plainFor mX4_stepsAboveBase.1 = true := plainFor_of_name pkX4
theorem wiX4_stepsAboveBase : Cond.instanceMethod mX4_stepsAboveBase.1 ∈ aTb := aI3 69 rfl rfl
theorem wlX4_stepsAboveBase : Cond.selects mX4_stepsAboveBase.1.cls mX4_stepsAboveBase.1 mX4_stepsAboveBase.1 ∈ aTb := aJ 9 rfl rfl
def mX4_typeOf : aMd := (yX4_typeOf, cX4_typeOf, 3, some .int, { frames := 1, cells := 0, slots := 0, locals := 22 })
theorem wmX4_typeOf : aWm mX4_typeOf := ⟨aI3 66 rfl rfl, aI1 8 rfl rfl, by decide, by decide⟩
theorem pnX4_typeOf : aPn mX4_typeOf 2 := pd6
theorem plX4_typeOf : plainFor mX4_typeOf.1 = true := plainFor_of_name pkX4
theorem wiX4_typeOf : Cond.instanceMethod mX4_typeOf.1 ∈ aTb := aI3 65 rfl rfl
theorem wlX4_typeOf : Cond.selects mX4_typeOf.1.cls mX4_typeOf.1 mX4_typeOf.1 ∈ aTb := aJ 8 rfl rfl
def mX4_octavesOf : aMd := (yX4_octavesOf, cX4_octavesOf, 3, some .int, { frames := 1, cells := 0, slots := 0, locals := 22 })
theorem wmX4_octavesOf : aWm mX4_octavesOf := ⟨aI3 107 rfl rfl, aI1 8 rfl rfl, by decide, by decide⟩
theorem pnX4_octavesOf : aPn mX4_octavesOf 2 := pd6
theorem plX4_octavesOf : plainFor mX4_octavesOf.1 = true := plainFor_of_name pkX4
theorem wiX4_octavesOf : Cond.instanceMethod mX4_octavesOf.1 ∈ aTb := aI3 105 rfl rfl
theorem wlX4_octavesOf : Cond.selects mX4_octavesOf.1.cls mX4_octavesOf.1 mX4_octavesOf.1 ∈ aTb := aI3 106 rfl rfl
def mX4_open : aMd := (yX4_open, cX4_open, 8, none, { frames := 2, cells := 0, slots := 0, locals := 44 })
theorem wmX4_open : aWm mX4_open := ⟨aI3 98 rfl rfl, aI1 8 rfl rfl, by decide, by decide⟩
theorem pnX4_open : aPn mX4_open 2 := pd8
theorem plX4_open : plainFor mX4_open.1 = true := plainFor_of_name pkX4
theorem wiX4_open : Cond.instanceMethod mX4_open.1 ∈ aTb := aI3 96 rfl rfl
theorem wlX4_open : Cond.selects mX4_open.1.cls mX4_open.1 mX4_open.1 ∈ aTb := aI3 97 rfl rfl
def mX4_targetOf : aMd := (yX4_targetOf, cX4_targetOf, 3, some .int, { frames := 2, cells := 0, slots := 0, locals := 44 })
theorem wmX4_targetOf : aWm mX4_targetOf := ⟨aI3 102 rfl rfl, aI1 8 rfl rfl, by decide, by decide⟩
theorem pnX4_targetOf : aPn mX4_targetOf 2 := pd6
theorem plX4_targetOf : plainFor mX4_targetOf.1 = true := plainFor_of_name pkX4
theorem wiX4_targetOf : Cond.instanceMethod mX4_targetOf.1 ∈ aTb := aI3 100 rfl rfl
theorem wlX4_targetOf : Cond.selects mX4_targetOf.1.cls mX4_targetOf.1 mX4_targetOf.1 ∈ aTb := aI3 101 rfl rfl
def mX4_deviationOf : aMd := (yX4_deviationOf, cX4_deviationOf, 3, some .int, { frames := 3, cells := 0, slots := 0, locals := 66 })
theorem wmX4_deviationOf : aWm mX4_deviationOf := ⟨aI4 0 rfl rfl, aI1 8 rfl rfl, by decide, by decide⟩
theorem pnX4_deviationOf : aPn mX4_deviationOf 2 := pd6
theorem plX4_deviationOf : plainFor mX4_deviationOf.1 = true := plainFor_of_name pkX4
theorem wiX4_deviationOf : Cond.instanceMethod mX4_deviationOf.1 ∈ aTb := aI3 238 rfl rfl
theorem wlX4_deviationOf : Cond.selects mX4_deviationOf.1.cls mX4_deviationOf.1 mX4_deviationOf.1 ∈ aTb := aI3 239 rfl rfl
def mX4_harshness : aMd := (yX4_harshness, cX4_harshness, 7, some .int, { frames := 2, cells := 0, slots := 0, locals := 45 })
theorem wmX4_harshness : aWm mX4_harshness := ⟨aI3 115 rfl rfl, aI1 8 rfl rfl, by decide, by decide⟩
theorem pnX4_harshness : aPn mX4_harshness 1 := pd3
theorem plX4_harshness : plainFor mX4_harshness.1 = true := plainFor_of_name pkX4
theorem wiX4_harshness : Cond.instanceMethod mX4_harshness.1 ∈ aTb := aI3 113 rfl rfl
theorem wlX4_harshness : Cond.selects mX4_harshness.1.cls mX4_harshness.1 mX4_harshness.1 ∈ aTb := aI3 114 rfl rfl
def mX5_init : aMd := (yX5_init, cX5_init, 1, none, { frames := 1, cells := 11, slots := 876, locals := 20 })
theorem wmX5_init : aWm mX5_init := ⟨aI1 77 rfl rfl, aI1 3 rfl rfl, by decide, by decide⟩
theorem pnX5_init : aPn mX5_init 0 := pd2
theorem plX5_init : plainFor mX5_init.1 = true := plainFor_of_name pkX5
theorem wiX5_init : Cond.instanceMethod mX5_init.1 ∈ aTb := aI1 76 rfl rfl
def mX5_hasNote : aMd := (yX5_hasNote, cX5_hasNote, 2, some .boolean, { frames := 0, cells := 0, slots := 0, locals := 0 })
theorem wmX5_hasNote : aWm mX5_hasNote := ⟨aI3 10 rfl rfl, aI1 3 rfl rfl, by decide, by decide⟩
theorem pnX5_hasNote : aPn mX5_hasNote 1 := pd5
theorem plX5_hasNote : plainFor mX5_hasNote.1 = true := plainFor_of_name pkX5
theorem wiX5_hasNote : Cond.instanceMethod mX5_hasNote.1 ∈ aTb := aI3 8 rfl rfl
theorem wlX5_hasNote : Cond.selects mX5_hasNote.1.cls mX5_hasNote.1 mX5_hasNote.1 ∈ aTb := aI3 9 rfl rfl
def mX5_hasSet : aMd := (yX5_hasSet, cX5_hasSet, 2, some .boolean, { frames := 0, cells := 0, slots := 0, locals := 0 })
theorem wmX5_hasSet : aWm mX5_hasSet := ⟨aI3 58 rfl rfl, aI1 3 rfl rfl, by decide, by decide⟩
theorem pnX5_hasSet : aPn mX5_hasSet 1 := pd5
theorem plX5_hasSet : plainFor mX5_hasSet.1 = true := plainFor_of_name pkX5
theorem wiX5_hasSet : Cond.instanceMethod mX5_hasSet.1 ∈ aTb := aI3 56 rfl rfl
theorem wlX5_hasSet : Cond.selects mX5_hasSet.1.cls mX5_hasSet.1 mX5_hasSet.1 ∈ aTb := aI3 57 rfl rfl
def mX5_isPart : aMd := (yX5_isPart, cX5_isPart, 3, some .boolean, { frames := 2, cells := 0, slots := 0, locals := 44 })
theorem wmX5_isPart : aWm mX5_isPart := ⟨aI3 92 rfl rfl, aI1 3 rfl rfl, by decide, by decide⟩
theorem pnX5_isPart : aPn mX5_isPart 2 := pd9
theorem plX5_isPart : plainFor mX5_isPart.1 = true := plainFor_of_name pkX5
theorem wiX5_isPart : Cond.instanceMethod mX5_isPart.1 ∈ aTb := aI3 90 rfl rfl
theorem wlX5_isPart : Cond.selects mX5_isPart.1.cls mX5_isPart.1 mX5_isPart.1 ∈ aTb := aI3 91 rfl rfl
def mX5_isIn : aMd := (yX5_isIn, cX5_isIn, 3, some .boolean, { frames := 1, cells := 0, slots := 0, locals := 22 })
theorem wmX5_isIn : aWm mX5_isIn := ⟨aI2 230 rfl rfl, aI1 3 rfl rfl, by decide, by decide⟩
theorem pnX5_isIn : aPn mX5_isIn 2 := pd9
theorem plX5_isIn : plainFor mX5_isIn.1 = true := plainFor_of_name pkX5
theorem wiX5_isIn : Cond.instanceMethod mX5_isIn.1 ∈ aTb := aI2 228 rfl rfl
theorem wlX5_isIn : Cond.selects mX5_isIn.1.cls mX5_isIn.1 mX5_isIn.1 ∈ aTb := aI2 229 rfl rfl
def mX5_isAt : aMd := (yX5_isAt, cX5_isAt, 3, some .boolean, { frames := 0, cells := 0, slots := 0, locals := 0 })
theorem wmX5_isAt : aWm mX5_isAt := ⟨aI2 196 rfl rfl, aI1 3 rfl rfl, by decide, by decide⟩
theorem pnX5_isAt : aPn mX5_isAt 2 := pd9
theorem plX5_isAt : plainFor mX5_isAt.1 = true := plainFor_of_name pkX5
theorem wiX5_isAt : Cond.instanceMethod mX5_isAt.1 ∈ aTb := aI2 195 rfl rfl
theorem wlX5_isAt : Cond.selects mX5_isAt.1.cls mX5_isAt.1 mX5_isAt.1 ∈ aTb := aJ 2 rfl rfl
def mX5_equalOf : aMd := (yX5_equalOf, cX5_equalOf, 2, some .int, { frames := 0, cells := 0, slots := 0, locals := 0 })
theorem wmX5_equalOf : aWm mX5_equalOf := ⟨aI4 123 rfl rfl, aI1 3 rfl rfl, by decide, by decide⟩
theorem pnX5_equalOf : aPn mX5_equalOf 1 := pd3
theorem plX5_equalOf : plainFor mX5_equalOf.1 = true := plainFor_of_name pkX5
theorem wiX5_equalOf : Cond.instanceMethod mX5_equalOf.1 ∈ aTb := aI4 121 rfl rfl
theorem wlX5_equalOf : Cond.selects mX5_equalOf.1.cls mX5_equalOf.1 mX5_equalOf.1 ∈ aTb := aI4 122 rfl rfl
def mX5_baseKey : aMd := (yX5_baseKey, cX5_baseKey, 2, some .int, { frames := 0, cells := 0, slots := 0, locals := 0 })
theorem wmX5_baseKey : aWm mX5_baseKey := ⟨aI3 170 rfl rfl, aI1 3 rfl rfl, by decide, by decide⟩
theorem pnX5_baseKey : aPn mX5_baseKey 1 := pd3
theorem plX5_baseKey : plainFor mX5_baseKey.1 = true := plainFor_of_name pkX5
theorem wiX5_baseKey : Cond.instanceMethod mX5_baseKey.1 ∈ aTb := aI3 168 rfl rfl
theorem wlX5_baseKey : Cond.selects mX5_baseKey.1.cls mX5_baseKey.1 mX5_baseKey.1 ∈ aTb := aI3 169 rfl rfl
def mX5_variableOf : aMd := (yX5_variableOf, cX5_variableOf, 3, some .int, { frames := 0, cells := 0, slots := 0, locals := 0 })
theorem wmX5_variableOf : aWm mX5_variableOf := ⟨aI2 234 rfl rfl, aI1 3 rfl rfl, by decide, by decide⟩
theorem pnX5_variableOf : aPn mX5_variableOf 2 := pd6
theorem plX5_variableOf : plainFor mX5_variableOf.1 = true := plainFor_of_name pkX5
theorem wiX5_variableOf : Cond.instanceMethod mX5_variableOf.1 ∈ aTb := aI2 232 rfl rfl
theorem wlX5_variableOf : Cond.selects mX5_variableOf.1.cls mX5_variableOf.1 mX5_variableOf.1 ∈ aTb := aI2 233 rfl rfl
def mX5_isFullFor : aMd := (yX5_isFullFor, cX5_isFullFor, 5, some .boolean, { frames := 2, cells := 0, slots := 0, locals := 45 })
theorem wmX5_isFullFor : aWm mX5_isFullFor := ⟨aI2 188 rfl rfl, aI1 3 rfl rfl, by decide, by decide⟩
theorem pnX5_isFullFor : aPn mX5_isFullFor 2 := pd9
theorem plX5_isFullFor : plainFor mX5_isFullFor.1 = true := plainFor_of_name pkX5
theorem wiX5_isFullFor : Cond.instanceMethod mX5_isFullFor.1 ∈ aTb := aI2 186 rfl rfl
theorem wlX5_isFullFor : Cond.selects mX5_isFullFor.1.cls mX5_isFullFor.1 mX5_isFullFor.1 ∈ aTb := aI2 187 rfl rfl
def mX5_soundingAt : aMd := (yX5_soundingAt, cX5_soundingAt, 4, some .int, { frames := 1, cells := 0, slots := 0, locals := 22 })
theorem wmX5_soundingAt : aWm mX5_soundingAt := ⟨aI2 192 rfl rfl, aI1 3 rfl rfl, by decide, by decide⟩
theorem pnX5_soundingAt : aPn mX5_soundingAt 1 := pd3
theorem plX5_soundingAt : plainFor mX5_soundingAt.1 = true := plainFor_of_name pkX5
theorem wiX5_soundingAt : Cond.instanceMethod mX5_soundingAt.1 ∈ aTb := aI2 191 rfl rfl
theorem wlX5_soundingAt : Cond.selects mX5_soundingAt.1.cls mX5_soundingAt.1 mX5_soundingAt.1 ∈ aTb := aJ 1 rfl rfl
def mX5_append : aMd := (yX5_append, cX5_append, 5, some .int, { frames := 3, cells := 0, slots := 0, locals := 71 })
theorem wmX5_append : aWm mX5_append := ⟨aI2 204 rfl rfl, aI1 3 rfl rfl, by decide, by decide⟩
theorem pnX5_append : aPn mX5_append 3 := pd10
theorem plX5_append : plainFor mX5_append.1 = true := plainFor_of_name pkX5
theorem wiX5_append : Cond.instanceMethod mX5_append.1 ∈ aTb := aI2 202 rfl rfl
theorem wlX5_append : Cond.selects mX5_append.1.cls mX5_append.1 mX5_append.1 ∈ aTb := aI2 203 rfl rfl
def mX5_removeAll : aMd := (yX5_removeAll, cX5_removeAll, 2, some .int, { frames := 0, cells := 0, slots := 0, locals := 0 })
theorem wmX5_removeAll : aWm mX5_removeAll := ⟨aI3 2 rfl rfl, aI1 3 rfl rfl, by decide, by decide⟩
theorem pnX5_removeAll : aPn mX5_removeAll 0 := pd0
theorem plX5_removeAll : plainFor mX5_removeAll.1 = true := plainFor_of_name pkX5
theorem wiX5_removeAll : Cond.instanceMethod mX5_removeAll.1 ∈ aTb := aI3 0 rfl rfl
theorem wlX5_removeAll : Cond.selects mX5_removeAll.1.cls mX5_removeAll.1 mX5_removeAll.1 ∈ aTb := aI3 1 rfl rfl
def mX5_tie : aMd := (yX5_tie, cX5_tie, 4, some .boolean, { frames := 3, cells := 0, slots := 0, locals := 67 })
theorem wmX5_tie : aWm mX5_tie := ⟨aI3 14 rfl rfl, aI1 3 rfl rfl, by decide, by decide⟩
theorem pnX5_tie : aPn mX5_tie 2 := pd21
theorem plX5_tie : plainFor mX5_tie.1 = true := plainFor_of_name pkX5
theorem wiX5_tie : Cond.instanceMethod mX5_tie.1 ∈ aTb := aI3 12 rfl rfl
theorem wlX5_tie : Cond.selects mX5_tie.1.cls mX5_tie.1 mX5_tie.1 ∈ aTb := aI3 13 rfl rfl
def mX5_findSets : aMd := (yX5_findSets, cX5_findSets, 4, none, { frames := 2, cells := 0, slots := 0, locals := 48 })
theorem wmX5_findSets : aWm mX5_findSets := ⟨aI2 208 rfl rfl, aI1 3 rfl rfl, by decide, by decide⟩
theorem pnX5_findSets : aPn mX5_findSets 0 := pd2
theorem plX5_findSets : plainFor mX5_findSets.1 = true := plainFor_of_name pkX5
theorem wiX5_findSets : Cond.instanceMethod mX5_findSets.1 ∈ aTb := aI2 207 rfl rfl
theorem wlX5_findSets : Cond.selects mX5_findSets.1.cls mX5_findSets.1 mX5_findSets.1 ∈ aTb := aJ 4 rfl rfl
def mX5_tickAfter : aMd := (yX5_tickAfter, cX5_tickAfter, 4, some .int, { frames := 1, cells := 0, slots := 0, locals := 21 })
theorem wmX5_tickAfter : aWm mX5_tickAfter := ⟨aI2 212 rfl rfl, aI1 3 rfl rfl, by decide, by decide⟩
theorem pnX5_tickAfter : aPn mX5_tickAfter 1 := pd3
theorem plX5_tickAfter : plainFor mX5_tickAfter.1 = true := plainFor_of_name pkX5
theorem wiX5_tickAfter : Cond.instanceMethod mX5_tickAfter.1 ∈ aTb := aI2 211 rfl rfl
theorem wlX5_tickAfter : Cond.selects mX5_tickAfter.1.cls mX5_tickAfter.1 mX5_tickAfter.1 ∈ aTb := aJ 5 rfl rfl
def mX5_appendSet : aMd := (yX5_appendSet, cX5_appendSet, 7, none, { frames := 1, cells := 0, slots := 0, locals := 22 })
theorem wmX5_appendSet : aWm mX5_appendSet := ⟨aI2 219 rfl rfl, aI1 3 rfl rfl, by decide, by decide⟩
theorem pnX5_appendSet : aPn mX5_appendSet 2 := pd8
theorem plX5_appendSet : plainFor mX5_appendSet.1 = true := plainFor_of_name pkX5
theorem wiX5_appendSet : Cond.instanceMethod mX5_appendSet.1 ∈ aTb := aI2 218 rfl rfl
theorem wlX5_appendSet : Cond.selects mX5_appendSet.1.cls mX5_appendSet.1 mX5_appendSet.1 ∈ aTb := aJ 6 rfl rfl
def mX5_numberVariables : aMd := (yX5_numberVariables, cX5_numberVariables, 4, none, { frames := 2, cells := 0, slots := 0, locals := 44 })
theorem wmX5_numberVariables : aWm mX5_numberVariables := ⟨aI2 226 rfl rfl, aI1 3 rfl rfl, by decide, by decide⟩
theorem pnX5_numberVariables : aPn mX5_numberVariables 0 := pd2
theorem plX5_numberVariables : plainFor mX5_numberVariables.1 = true := plainFor_of_name pkX5
theorem wiX5_numberVariables : Cond.instanceMethod mX5_numberVariables.1 ∈ aTb := aI2 225 rfl rfl
theorem wlX5_numberVariables : Cond.selects mX5_numberVariables.1.cls mX5_numberVariables.1 mX5_numberVariables.1 ∈ aTb := aJ 7 rfl rfl
def mX5_findCommon : aMd := (yX5_findCommon, cX5_findCommon, 4, none, { frames := 2, cells := 0, slots := 0, locals := 44 })
theorem wmX5_findCommon : aWm mX5_findCommon := ⟨aI3 162 rfl rfl, aI1 3 rfl rfl, by decide, by decide⟩
theorem pnX5_findCommon : aPn mX5_findCommon 1 := pd4
theorem plX5_findCommon : plainFor mX5_findCommon.1 = true := plainFor_of_name pkX5
theorem wiX5_findCommon : Cond.instanceMethod mX5_findCommon.1 ∈ aTb := aI3 160 rfl rfl
theorem wlX5_findCommon : Cond.selects mX5_findCommon.1.cls mX5_findCommon.1 mX5_findCommon.1 ∈ aTb := aI3 161 rfl rfl
def mX6_init : aMd := (yX6_init, cX6_init, 3, none, { frames := 2, cells := 81, slots := 1056, locals := 40 })
theorem wmX6_init : aWm mX6_init := ⟨aI2 112 rfl rfl, aI1 12 rfl rfl, by decide, by decide⟩
theorem pnX6_init : aPn mX6_init 1 := pd33
theorem plX6_init : plainFor mX6_init.1 = true := plainFor_of_name pkX6
theorem wiX6_init : Cond.instanceMethod mX6_init.1 ∈ aTb := aI2 111 rfl rfl
def mX6_run : aMd := (yX6_run, cX6_run, 2, none, { frames := 3, cells := 0, slots := 0, locals := 89 })
theorem wmX6_run : aWm mX6_run := ⟨aI4 36 rfl rfl, aI1 12 rfl rfl, by decide, by decide⟩
theorem pnX6_run : aPn mX6_run 0 := pd2
theorem plX6_run : plainFor mX6_run.1 = true := plainFor_of_name pkX6
theorem wiX6_run : Cond.instanceMethod mX6_run.1 ∈ aTb := aI4 34 rfl rfl
theorem wlX6_run : Cond.selects mX6_run.1.cls mX6_run.1 mX6_run.1 ∈ aTb := aI4 35 rfl rfl
def mX6_useModulus : aMd := (yX6_useModulus, cX6_useModulus, 6, none, { frames := 1, cells := 0, slots := 0, locals := 28 })
theorem wmX6_useModulus : aWm mX6_useModulus := ⟨aI4 73 rfl rfl, aI1 12 rfl rfl, by decide, by decide⟩
theorem pnX6_useModulus : aPn mX6_useModulus 1 := pd24
theorem plX6_useModulus : plainFor mX6_useModulus.1 = true := plainFor_of_name pkX6
theorem wiX6_useModulus : Cond.instanceMethod mX6_useModulus.1 ∈ aTb := aI4 72 rfl rfl
theorem wlX6_useModulus : Cond.selects mX6_useModulus.1.cls mX6_useModulus.1 mX6_useModulus.1 ∈ aTb := aJ 36 rfl rfl
def mX6_solveBy : aMd := (yX6_solveBy, cX6_solveBy, 11, some .boolean, { frames := 2, cells := 0, slots := 0, locals := 59 })
theorem wmX6_solveBy : aWm mX6_solveBy := ⟨aI4 42 rfl rfl, aI1 12 rfl rfl, by decide, by decide⟩
theorem pnX6_solveBy : aPn mX6_solveBy 2 := pd27
theorem plX6_solveBy : plainFor mX6_solveBy.1 = true := plainFor_of_name pkX6
theorem wiX6_solveBy : Cond.instanceMethod mX6_solveBy.1 ∈ aTb := aI4 41 rfl rfl
theorem wlX6_solveBy : Cond.selects mX6_solveBy.1.cls mX6_solveBy.1 mX6_solveBy.1 ∈ aTb := aJ 30 rfl rfl
def mX6_load : aMd := (yX6_load, cX6_load, 6, none, { frames := 1, cells := 0, slots := 0, locals := 25 })
theorem wmX6_load : aWm mX6_load := ⟨aI4 46 rfl rfl, aI1 12 rfl rfl, by decide, by decide⟩
theorem pnX6_load : aPn mX6_load 1 := pd24
theorem plX6_load : plainFor mX6_load.1 = true := plainFor_of_name pkX6
theorem wiX6_load : Cond.instanceMethod mX6_load.1 ∈ aTb := aI4 45 rfl rfl
theorem wlX6_load : Cond.selects mX6_load.1.cls mX6_load.1 mX6_load.1 ∈ aTb := aJ 31 rfl rfl
def mX6_eliminate : aMd := (yX6_eliminate, cX6_eliminate, 11, some .long, { frames := 1, cells := 0, slots := 0, locals := 29 })
theorem wmX6_eliminate : aWm mX6_eliminate := ⟨aI4 53 rfl rfl, aI1 12 rfl rfl, by decide, by decide⟩
theorem pnX6_eliminate : aPn mX6_eliminate 1 := pd23
theorem plX6_eliminate : plainFor mX6_eliminate.1 = true := plainFor_of_name pkX6
theorem wiX6_eliminate : Cond.instanceMethod mX6_eliminate.1 ∈ aTb := aI4 52 rfl rfl
theorem wlX6_eliminate : Cond.selects mX6_eliminate.1.cls mX6_eliminate.1 mX6_eliminate.1 ∈ aTb := aJ 32 rfl rfl
def mX6_findRow : aMd := (yX6_findRow, cX6_findRow, 3, some .int, { frames := 0, cells := 0, slots := 0, locals := 0 })
theorem wmX6_findRow : aWm mX6_findRow := ⟨aI4 57 rfl rfl, aI1 12 rfl rfl, by decide, by decide⟩
theorem pnX6_findRow : aPn mX6_findRow 1 := pd3
theorem plX6_findRow : plainFor mX6_findRow.1 = true := plainFor_of_name pkX6
theorem wiX6_findRow : Cond.instanceMethod mX6_findRow.1 ∈ aTb := aI4 56 rfl rfl
theorem wlX6_findRow : Cond.selects mX6_findRow.1.cls mX6_findRow.1 mX6_findRow.1 ∈ aTb := aJ 33 rfl rfl
def mX6_swapRows : aMd := (yX6_swapRows, cX6_swapRows, 6, none, { frames := 0, cells := 0, slots := 0, locals := 0 })
theorem wmX6_swapRows : aWm mX6_swapRows := ⟨aI4 61 rfl rfl, aI1 12 rfl rfl, by decide, by decide⟩
theorem pnX6_swapRows : aPn mX6_swapRows 2 := pd8
theorem plX6_swapRows : plainFor mX6_swapRows.1 = true := plainFor_of_name pkX6
theorem wiX6_swapRows : Cond.instanceMethod mX6_swapRows.1 ∈ aTb := aI4 60 rfl rfl
theorem wlX6_swapRows : Cond.selects mX6_swapRows.1.cls mX6_swapRows.1 mX6_swapRows.1 ∈ aTb := aJ 34 rfl rfl
def mX6_subtractRow : aMd := (yX6_subtractRow, cX6_subtractRow, 10, none, { frames := 0, cells := 0, slots := 0, locals := 0 })
theorem wmX6_subtractRow : aWm mX6_subtractRow := ⟨aI4 69 rfl rfl, aI1 12 rfl rfl, by decide, by decide⟩
theorem pnX6_subtractRow : aPn mX6_subtractRow 3 := pd16
theorem plX6_subtractRow : plainFor mX6_subtractRow.1 = true := plainFor_of_name pkX6
theorem wiX6_subtractRow : Cond.instanceMethod mX6_subtractRow.1 ∈ aTb := aI4 68 rfl rfl
theorem wlX6_subtractRow : Cond.selects mX6_subtractRow.1.cls mX6_subtractRow.1 mX6_subtractRow.1 ∈ aTb := aJ 35 rfl rfl
def mX6_inverse : aMd := (yX6_inverse, cX6_inverse, 9, some .long, { frames := 0, cells := 0, slots := 0, locals := 0 })
theorem wmX6_inverse : aWm mX6_inverse := ⟨aI4 64 rfl rfl, aI1 12 rfl rfl, by decide, by decide⟩
theorem pnX6_inverse : aPn mX6_inverse 2 := pd26
theorem plX6_inverse : plainFor mX6_inverse.1 = true := plainFor_of_name pkX6
theorem wsX6_inverse : Cond.static mX6_inverse.1 ∈ aTb := aI4 63 rfl rfl
def mX6_putTogether : aMd := (yX6_putTogether, cX6_putTogether, 5, none, { frames := 2, cells := 0, slots := 0, locals := 54 })
theorem wmX6_putTogether : aWm mX6_putTogether := ⟨aI4 77 rfl rfl, aI1 12 rfl rfl, by decide, by decide⟩
theorem pnX6_putTogether : aPn mX6_putTogether 1 := pd4
theorem plX6_putTogether : plainFor mX6_putTogether.1 = true := plainFor_of_name pkX6
theorem wiX6_putTogether : Cond.instanceMethod mX6_putTogether.1 ∈ aTb := aI4 76 rfl rfl
theorem wlX6_putTogether : Cond.selects mX6_putTogether.1.cls mX6_putTogether.1 mX6_putTogether.1 ∈ aTb := aJ 37 rfl rfl
def mX6_findDigits : aMd := (yX6_findDigits, cX6_findDigits, 10, none, { frames := 1, cells := 0, slots := 0, locals := 25 })
theorem wmX6_findDigits : aWm mX6_findDigits := ⟨aI4 81 rfl rfl, aI1 12 rfl rfl, by decide, by decide⟩
theorem pnX6_findDigits : aPn mX6_findDigits 2 := pd8
theorem plX6_findDigits : plainFor mX6_findDigits.1 = true := plainFor_of_name pkX6
theorem wiX6_findDigits : Cond.instanceMethod mX6_findDigits.1 ∈ aTb := aI4 80 rfl rfl
theorem wlX6_findDigits : Cond.selects mX6_findDigits.1.cls mX6_findDigits.1 mX6_findDigits.1 ∈ aTb := aJ 38 rfl rfl
def mX7_init : aMd := (yX7_init, cX7_init, 5, none, { frames := 1, cells := 23, slots := 460, locals := 20 })
theorem wmX7_init : aWm mX7_init := ⟨aI2 68 rfl rfl, aI1 11 rfl rfl, by decide, by decide⟩
theorem pnX7_init : aPn mX7_init 4 := pd31
theorem plX7_init : plainFor mX7_init.1 = true := plainFor_of_name pkX7
theorem wiX7_init : Cond.instanceMethod mX7_init.1 ∈ aTb := aI2 67 rfl rfl
def mX7_gather : aMd := (yX7_gather, cX7_gather, 2, none, { frames := 5, cells := 0, slots := 0, locals := 116 })
theorem wmX7_gather : aWm mX7_gather := ⟨aI3 223 rfl rfl, aI1 11 rfl rfl, by decide, by decide⟩
theorem pnX7_gather : aPn mX7_gather 0 := pd2
theorem plX7_gather : plainFor mX7_gather.1 = true := plainFor_of_name pkX7
theorem wiX7_gather : Cond.instanceMethod mX7_gather.1 ∈ aTb := aI3 221 rfl rfl
theorem wlX7_gather : Cond.selects mX7_gather.1.cls mX7_gather.1 mX7_gather.1 ∈ aTb := aI3 222 rfl rfl
def mX7_reset : aMd := (yX7_reset, cX7_reset, 2, none, { frames := 1, cells := 0, slots := 0, locals := 24 })
theorem wmX7_reset : aWm mX7_reset := ⟨aI3 227 rfl rfl, aI1 11 rfl rfl, by decide, by decide⟩
theorem pnX7_reset : aPn mX7_reset 0 := pd2
theorem plX7_reset : plainFor mX7_reset.1 = true := plainFor_of_name pkX7
theorem wiX7_reset : Cond.instanceMethod mX7_reset.1 ∈ aTb := aI3 226 rfl rfl
theorem wlX7_reset : Cond.selects mX7_reset.1.cls mX7_reset.1 mX7_reset.1 ∈ aTb := aJ 21 rfl rfl
def mX7_addChord : aMd := (yX7_addChord, cX7_addChord, 9, none, { frames := 4, cells := 0, slots := 0, locals := 88 })
theorem wmX7_addChord : aWm mX7_addChord := ⟨aI3 235 rfl rfl, aI1 11 rfl rfl, by decide, by decide⟩
theorem pnX7_addChord : aPn mX7_addChord 1 := pd4
theorem plX7_addChord : plainFor mX7_addChord.1 = true := plainFor_of_name pkX7
theorem wiX7_addChord : Cond.instanceMethod mX7_addChord.1 ∈ aTb := aI3 234 rfl rfl
theorem wlX7_addChord : Cond.selects mX7_addChord.1.cls mX7_addChord.1 mX7_addChord.1 ∈ aTb := aJ 22 rfl rfl
def mX7_addMoves : aMd := (yX7_addMoves, cX7_addMoves, 4, none, { frames := 3, cells := 0, slots := 0, locals := 67 })
theorem wmX7_addMoves : aWm mX7_addMoves := ⟨aI4 10 rfl rfl, aI1 11 rfl rfl, by decide, by decide⟩
theorem pnX7_addMoves : aPn mX7_addMoves 1 := pd4
theorem plX7_addMoves : plainFor mX7_addMoves.1 = true := plainFor_of_name pkX7
theorem wiX7_addMoves : Cond.instanceMethod mX7_addMoves.1 ∈ aTb := aI4 9 rfl rfl
theorem wlX7_addMoves : Cond.selects mX7_addMoves.1.cls mX7_addMoves.1 mX7_addMoves.1 ∈ aTb := aJ 24 rfl rfl
def mX7_addEquals : aMd := (yX7_addEquals, cX7_addEquals, 4, none, { frames := 1, cells := 0, slots := 0, locals := 22 })
theorem wmX7_addEquals : aWm mX7_addEquals := ⟨aI4 15 rfl rfl, aI1 11 rfl rfl, by decide, by decide⟩
theorem pnX7_addEquals : aPn mX7_addEquals 1 := pd4
theorem plX7_addEquals : plainFor mX7_addEquals.1 = true := plainFor_of_name pkX7
theorem wiX7_addEquals : Cond.instanceMethod mX7_addEquals.1 ∈ aTb := aI4 14 rfl rfl
theorem wlX7_addEquals : Cond.selects mX7_addEquals.1.cls mX7_addEquals.1 mX7_addEquals.1 ∈ aTb := aJ 25 rfl rfl
def mX7_addPair : aMd := (yX7_addPair, cX7_addPair, 7, none, { frames := 0, cells := 0, slots := 0, locals := 0 })
theorem wmX7_addPair : aWm mX7_addPair := ⟨aI4 6 rfl rfl, aI1 11 rfl rfl, by decide, by decide⟩
theorem pnX7_addPair : aPn mX7_addPair 4 := pd17
theorem plX7_addPair : plainFor mX7_addPair.1 = true := plainFor_of_name pkX7
theorem wiX7_addPair : Cond.instanceMethod mX7_addPair.1 ∈ aTb := aI4 5 rfl rfl
theorem wlX7_addPair : Cond.selects mX7_addPair.1.cls mX7_addPair.1 mX7_addPair.1 ∈ aTb := aJ 23 rfl rfl
def mX7_fixLoose : aMd := (yX7_fixLoose, cX7_fixLoose, 2, none, { frames := 3, cells := 0, slots := 0, locals := 67 })
theorem wmX7_fixLoose : aWm mX7_fixLoose := ⟨aI4 19 rfl rfl, aI1 11 rfl rfl, by decide, by decide⟩
theorem pnX7_fixLoose : aPn mX7_fixLoose 0 := pd2
theorem plX7_fixLoose : plainFor mX7_fixLoose.1 = true := plainFor_of_name pkX7
theorem wiX7_fixLoose : Cond.instanceMethod mX7_fixLoose.1 ∈ aTb := aI4 18 rfl rfl
theorem wlX7_fixLoose : Cond.selects mX7_fixLoose.1.cls mX7_fixLoose.1 mX7_fixLoose.1 ∈ aTb := aJ 26 rfl rfl
def mX7_findLasts : aMd := (yX7_findLasts, cX7_findLasts, 4, none, { frames := 2, cells := 0, slots := 0, locals := 44 })
theorem wmX7_findLasts : aWm mX7_findLasts := ⟨aI4 23 rfl rfl, aI1 11 rfl rfl, by decide, by decide⟩
theorem pnX7_findLasts : aPn mX7_findLasts 0 := pd2
theorem plX7_findLasts : plainFor mX7_findLasts.1 = true := plainFor_of_name pkX7
theorem wiX7_findLasts : Cond.instanceMethod mX7_findLasts.1 ∈ aTb := aI4 22 rfl rfl
theorem wlX7_findLasts : Cond.selects mX7_findLasts.1.cls mX7_findLasts.1 mX7_findLasts.1 ∈ aTb := aJ 27 rfl rfl
def mX7_pullLast : aMd := (yX7_pullLast, cX7_pullLast, 4, some .boolean, { frames := 1, cells := 0, slots := 0, locals := 21 })
theorem wmX7_pullLast : aWm mX7_pullLast := ⟨aI4 27 rfl rfl, aI1 11 rfl rfl, by decide, by decide⟩
theorem pnX7_pullLast : aPn mX7_pullLast 1 := pd5
theorem plX7_pullLast : plainFor mX7_pullLast.1 = true := plainFor_of_name pkX7
theorem wiX7_pullLast : Cond.instanceMethod mX7_pullLast.1 ∈ aTb := aI4 26 rfl rfl
theorem wlX7_pullLast : Cond.selects mX7_pullLast.1.cls mX7_pullLast.1 mX7_pullLast.1 ∈ aTb := aJ 28 rfl rfl
def mX7_fix : aMd := (yX7_fix, cX7_fix, 3, none, { frames := 0, cells := 0, slots := 0, locals := 0 })
theorem wmX7_fix : aWm mX7_fix := ⟨aI4 32 rfl rfl, aI1 11 rfl rfl, by decide, by decide⟩
theorem pnX7_fix : aPn mX7_fix 1 := pd4
theorem plX7_fix : plainFor mX7_fix.1 = true := plainFor_of_name pkX7
theorem wiX7_fix : Cond.instanceMethod mX7_fix.1 ∈ aTb := aI4 31 rfl rfl
theorem wlX7_fix : Cond.selects mX7_fix.1.cls mX7_fix.1 mX7_fix.1 ∈ aTb := aJ 29 rfl rfl
def mX8_init : aMd := (yX8_init, cX8_init, 1, none, { frames := 1, cells := 1, slots := 256, locals := 20 })
theorem wmX8_init : aWm mX8_init := ⟨aI1 191 rfl rfl, aI1 6 rfl rfl, by decide, by decide⟩
theorem pnX8_init : aPn mX8_init 0 := pd2
theorem plX8_init : plainFor mX8_init.1 = true := plainFor_of_name pkX8
theorem wiX8_init : Cond.instanceMethod mX8_init.1 ∈ aTb := aI1 190 rfl rfl
def mX8_write : aMd := (yX8_write, cX8_write, 2, some .int, { frames := 4, cells := 0, slots := 0, locals := 114 })
theorem wmX8_write : aWm mX8_write := ⟨aI4 149 rfl rfl, aI1 6 rfl rfl, by decide, by decide⟩
theorem pnX8_write : aPn mX8_write 1 := pd28
theorem plX8_write : plainFor mX8_write.1 = true := plainFor_of_name pkX8
theorem wiX8_write : Cond.instanceMethod mX8_write.1 ∈ aTb := aI4 147 rfl rfl
theorem wlX8_write : Cond.selects mX8_write.1.cls mX8_write.1 mX8_write.1 ∈ aTb := aI4 148 rfl rfl
def mX8_append : aMd := (yX8_append, cX8_append, 2, none, { frames := 0, cells := 0, slots := 0, locals := 0 })
theorem wmX8_append : aWm mX8_append := ⟨aI4 195 rfl rfl, aI1 6 rfl rfl, by decide, by decide⟩
theorem pnX8_append : aPn mX8_append 1 := pd4
theorem plX8_append : plainFor mX8_append.1 = true := plainFor_of_name pkX8
theorem wiX8_append : Cond.instanceMethod mX8_append.1 ∈ aTb := aI4 194 rfl rfl
theorem wlX8_append : Cond.selects mX8_append.1.cls mX8_append.1 mX8_append.1 ∈ aTb := aJ 44 rfl rfl
def mX8_appendSize : aMd := (yX8_appendSize, cX8_appendSize, 6, none, { frames := 1, cells := 0, slots := 0, locals := 23 })
theorem wmX8_appendSize : aWm mX8_appendSize := ⟨aI4 199 rfl rfl, aI1 6 rfl rfl, by decide, by decide⟩
theorem pnX8_appendSize : aPn mX8_appendSize 1 := pd35
theorem plX8_appendSize : plainFor mX8_appendSize.1 = true := plainFor_of_name pkX8
theorem wiX8_appendSize : Cond.instanceMethod mX8_appendSize.1 ∈ aTb := aI4 198 rfl rfl
theorem wlX8_appendSize : Cond.selects mX8_appendSize.1.cls mX8_appendSize.1 mX8_appendSize.1 ∈ aTb := aJ 45 rfl rfl
def mX9_init : aMd := (yX9_init, cX9_init, 1, none, { frames := 1, cells := 1, slots := 12, locals := 20 })
theorem wmX9_init : aWm mX9_init := ⟨aI1 160 rfl rfl, aI1 5 rfl rfl, by decide, by decide⟩
theorem pnX9_init : aPn mX9_init 0 := pd2
theorem plX9_init : plainFor mX9_init.1 = true := plainFor_of_name pkX9
theorem wiX9_init : Cond.instanceMethod mX9_init.1 ∈ aTb := aI1 159 rfl rfl
def mX9_become : aMd := (yX9_become, cX9_become, 2, none, { frames := 1, cells := 0, slots := 0, locals := 23 })
theorem wmX9_become : aWm mX9_become := ⟨aI4 85 rfl rfl, aI1 5 rfl rfl, by decide, by decide⟩
theorem pnX9_become : aPn mX9_become 1 := pd4
theorem plX9_become : plainFor mX9_become.1 = true := plainFor_of_name pkX9
theorem wiX9_become : Cond.instanceMethod mX9_become.1 ∈ aTb := aI4 83 rfl rfl
theorem wlX9_become : Cond.selects mX9_become.1.cls mX9_become.1 mX9_become.1 ∈ aTb := aI4 84 rfl rfl
def mX9_copy : aMd := (yX9_copy, cX9_copy, 2, none, { frames := 1, cells := 0, slots := 0, locals := 49 })
theorem wmX9_copy : aWm mX9_copy := ⟨aI4 118 rfl rfl, aI1 5 rfl rfl, by decide, by decide⟩
theorem pnX9_copy : aPn mX9_copy 1 := pd35
theorem plX9_copy : plainFor mX9_copy.1 = true := plainFor_of_name pkX9
theorem wiX9_copy : Cond.instanceMethod mX9_copy.1 ∈ aTb := aI4 116 rfl rfl
theorem wlX9_copy : Cond.selects mX9_copy.1.cls mX9_copy.1 mX9_copy.1 ∈ aTb := aI4 117 rfl rfl
def mX9_hasSize : aMd := (yX9_hasSize, cX9_hasSize, 3, some .boolean, { frames := 0, cells := 0, slots := 0, locals := 0 })
theorem wmX9_hasSize : aWm mX9_hasSize := ⟨aI4 145 rfl rfl, aI1 5 rfl rfl, by decide, by decide⟩
theorem pnX9_hasSize : aPn mX9_hasSize 1 := pd5
theorem plX9_hasSize : plainFor mX9_hasSize.1 = true := plainFor_of_name pkX9
theorem wiX9_hasSize : Cond.instanceMethod mX9_hasSize.1 ∈ aTb := aI4 143 rfl rfl
theorem wlX9_hasSize : Cond.selects mX9_hasSize.1.cls mX9_hasSize.1 mX9_hasSize.1 ∈ aTb := aI4 144 rfl rfl
def mX9_timesPlus : aMd := (yX9_timesPlus, cX9_timesPlus, 6, none, { frames := 0, cells := 0, slots := 0, locals := 0 })
theorem wmX9_timesPlus : aWm mX9_timesPlus := ⟨aI4 92 rfl rfl, aI1 5 rfl rfl, by decide, by decide⟩
theorem pnX9_timesPlus : aPn mX9_timesPlus 2 := pd8
theorem plX9_timesPlus : plainFor mX9_timesPlus.1 = true := plainFor_of_name pkX9
theorem wiX9_timesPlus : Cond.instanceMethod mX9_timesPlus.1 ∈ aTb := aI4 90 rfl rfl
theorem wlX9_timesPlus : Cond.selects mX9_timesPlus.1.cls mX9_timesPlus.1 mX9_timesPlus.1 ∈ aTb := aI4 91 rfl rfl
def mX9_compareSize : aMd := (yX9_compareSize, cX9_compareSize, 3, some .int, { frames := 0, cells := 0, slots := 0, locals := 0 })
theorem wmX9_compareSize : aWm mX9_compareSize := ⟨aI4 141 rfl rfl, aI1 5 rfl rfl, by decide, by decide⟩
theorem pnX9_compareSize : aPn mX9_compareSize 1 := pd34
theorem plX9_compareSize : plainFor mX9_compareSize.1 = true := plainFor_of_name pkX9
theorem wiX9_compareSize : Cond.instanceMethod mX9_compareSize.1 ∈ aTb := aI4 139 rfl rfl
theorem wlX9_compareSize : Cond.selects mX9_compareSize.1.cls mX9_compareSize.1 mX9_compareSize.1 ∈ aTb := aI4 140 rfl rfl
def mX9_add : aMd := (yX9_add, cX9_add, 2, none, { frames := 1, cells := 0, slots := 0, locals := 25 })
theorem wmX9_add : aWm mX9_add := ⟨aI4 132 rfl rfl, aI1 5 rfl rfl, by decide, by decide⟩
theorem pnX9_add : aPn mX9_add 1 := pd35
theorem plX9_add : plainFor mX9_add.1 = true := plainFor_of_name pkX9
theorem wiX9_add : Cond.instanceMethod mX9_add.1 ∈ aTb := aI4 130 rfl rfl
theorem wlX9_add : Cond.selects mX9_add.1.cls mX9_add.1 mX9_add.1 ∈ aTb := aI4 131 rfl rfl
def mX9_subtractSize : aMd := (yX9_subtractSize, cX9_subtractSize, 2, none, { frames := 1, cells := 0, slots := 0, locals := 25 })
theorem wmX9_subtractSize : aWm mX9_subtractSize := ⟨aI4 183 rfl rfl, aI1 5 rfl rfl, by decide, by decide⟩
theorem pnX9_subtractSize : aPn mX9_subtractSize 1 := pd35
theorem plX9_subtractSize : plainFor mX9_subtractSize.1 = true := plainFor_of_name pkX9
theorem wiX9_subtractSize : Cond.instanceMethod mX9_subtractSize.1 ∈ aTb := aI4 181 rfl rfl
theorem wlX9_subtractSize : Cond.selects mX9_subtractSize.1.cls mX9_subtractSize.1 mX9_subtractSize.1 ∈ aTb := aI4 182 rfl rfl
def mX9_combine : aMd := (yX9_combine, cX9_combine, 6, none, { frames := 0, cells := 0, slots := 0, locals := 0 })
theorem wmX9_combine : aWm mX9_combine := ⟨aI4 136 rfl rfl, aI1 5 rfl rfl, by decide, by decide⟩
theorem pnX9_combine : aPn mX9_combine 3 := pd37
theorem plX9_combine : plainFor mX9_combine.1 = true := plainFor_of_name pkX9
theorem wiX9_combine : Cond.instanceMethod mX9_combine.1 ∈ aTb := aI4 135 rfl rfl
theorem wlX9_combine : Cond.selects mX9_combine.1.cls mX9_combine.1 mX9_combine.1 ∈ aTb := aJ 40 rfl rfl
def mX9_twos : aMd := (yX9_twos, cX9_twos, 2, some .int, { frames := 1, cells := 0, slots := 0, locals := 20 })
theorem wmX9_twos : aWm mX9_twos := ⟨aI4 159 rfl rfl, aI1 5 rfl rfl, by decide, by decide⟩
theorem pnX9_twos : aPn mX9_twos 0 := pd0
theorem plX9_twos : plainFor mX9_twos.1 = true := plainFor_of_name pkX9
theorem wiX9_twos : Cond.instanceMethod mX9_twos.1 ∈ aTb := aI4 157 rfl rfl
theorem wlX9_twos : Cond.selects mX9_twos.1.cls mX9_twos.1 mX9_twos.1 ∈ aTb := aI4 158 rfl rfl
def mX9_dropBits : aMd := (yX9_dropBits, cX9_dropBits, 7, none, { frames := 1, cells := 0, slots := 0, locals := 21 })
theorem wmX9_dropBits : aWm mX9_dropBits := ⟨aI4 170 rfl rfl, aI1 5 rfl rfl, by decide, by decide⟩
theorem pnX9_dropBits : aPn mX9_dropBits 1 := pd4
theorem plX9_dropBits : plainFor mX9_dropBits.1 = true := plainFor_of_name pkX9
theorem wiX9_dropBits : Cond.instanceMethod mX9_dropBits.1 ∈ aTb := aI4 168 rfl rfl
theorem wlX9_dropBits : Cond.selects mX9_dropBits.1.cls mX9_dropBits.1 mX9_dropBits.1 ∈ aTb := aI4 169 rfl rfl
def mX9_limbAt : aMd := (yX9_limbAt, cX9_limbAt, 2, some .int, { frames := 0, cells := 0, slots := 0, locals := 0 })
theorem wmX9_limbAt : aWm mX9_limbAt := ⟨aI4 174 rfl rfl, aI1 5 rfl rfl, by decide, by decide⟩
theorem pnX9_limbAt : aPn mX9_limbAt 1 := pd3
theorem plX9_limbAt : plainFor mX9_limbAt.1 = true := plainFor_of_name pkX9
theorem wiX9_limbAt : Cond.instanceMethod mX9_limbAt.1 ∈ aTb := aI4 173 rfl rfl
theorem wlX9_limbAt : Cond.selects mX9_limbAt.1.cls mX9_limbAt.1 mX9_limbAt.1 ∈ aTb := aJ 41 rfl rfl
def mX9_dropDigit : aMd := (yX9_dropDigit, cX9_dropDigit, 4, some .int, { frames := 0, cells := 0, slots := 0, locals := 0 })
theorem wmX9_dropDigit : aWm mX9_dropDigit := ⟨aI4 203 rfl rfl, aI1 5 rfl rfl, by decide, by decide⟩
theorem pnX9_dropDigit : aPn mX9_dropDigit 0 := pd0
theorem plX9_dropDigit : plainFor mX9_dropDigit.1 = true := plainFor_of_name pkX9
theorem wiX9_dropDigit : Cond.instanceMethod mX9_dropDigit.1 ∈ aTb := aI4 201 rfl rfl
theorem wlX9_dropDigit : Cond.selects mX9_dropDigit.1.cls mX9_dropDigit.1 mX9_dropDigit.1 ∈ aTb := aI4 202 rfl rfl
def mX9_divideByOdd : aMd := (yX9_divideByOdd, cX9_divideByOdd, 8, none, { frames := 1, cells := 0, slots := 0, locals := 22 })
theorem wmX9_divideByOdd : aWm mX9_divideByOdd := ⟨aI4 187 rfl rfl, aI1 5 rfl rfl, by decide, by decide⟩
theorem pnX9_divideByOdd : aPn mX9_divideByOdd 1 := pd35
theorem plX9_divideByOdd : plainFor mX9_divideByOdd.1 = true := plainFor_of_name pkX9
theorem wiX9_divideByOdd : Cond.instanceMethod mX9_divideByOdd.1 ∈ aTb := aI4 185 rfl rfl
theorem wlX9_divideByOdd : Cond.selects mX9_divideByOdd.1.cls mX9_divideByOdd.1 mX9_divideByOdd.1 ∈ aTb := aI4 186 rfl rfl
def mX9_inverseOfLowest : aMd := (yX9_inverseOfLowest, cX9_inverseOfLowest, 3, some .int, { frames := 0, cells := 0, slots := 0, locals := 0 })
theorem wmX9_inverseOfLowest : aWm mX9_inverseOfLowest := ⟨aI4 191 rfl rfl, aI1 5 rfl rfl, by decide, by decide⟩
theorem pnX9_inverseOfLowest : aPn mX9_inverseOfLowest 0 := pd0
theorem plX9_inverseOfLowest : plainFor mX9_inverseOfLowest.1 = true := plainFor_of_name pkX9
theorem wiX9_inverseOfLowest : Cond.instanceMethod mX9_inverseOfLowest.1 ∈ aTb := aI4 190 rfl rfl
theorem wlX9_inverseOfLowest : Cond.selects mX9_inverseOfLowest.1.cls mX9_inverseOfLowest.1 mX9_inverseOfLowest.1 ∈ aTb := aJ 43 rfl rfl
def mX10_init : aMd := (yX10_init, cX10_init, 1, none, { frames := 4, cells := 150, slots := 6326, locals := 93 })
theorem wmX10_init : aWm mX10_init := ⟨aI1 21 rfl rfl, aI1 1 rfl rfl, by decide, by decide⟩
theorem pnX10_init : aPn mX10_init 0 := pd2
theorem plX10_init : plainFor mX10_init.1 = true := plainFor_of_name pkX10
theorem wiX10_init : Cond.instanceMethod mX10_init.1 ∈ aTb := aI1 20 rfl rfl
def mX10_note : aMd := (yX10_note, cX10_note, 4, some .int, { frames := 4, cells := 0, slots := 0, locals := 95 })
theorem wmX10_note : aWm mX10_note := ⟨aI2 184 rfl rfl, aI1 1 rfl rfl, by decide, by decide⟩
theorem pnX10_note : aPn mX10_note 3 := pd10
theorem plX10_note : plainFor mX10_note.1 = true := plainFor_of_name pkX10
theorem wiX10_note : Cond.instanceMethod mX10_note.1 ∈ aTb := aI2 182 rfl rfl
theorem wlX10_note : Cond.selects mX10_note.1.cls mX10_note.1 mX10_note.1 ∈ aTb := aI2 183 rfl rfl
def mX10_clear : aMd := (yX10_clear, cX10_clear, 1, some .int, { frames := 1, cells := 0, slots := 0, locals := 21 })
theorem wmX10_clear : aWm mX10_clear := ⟨aI2 238 rfl rfl, aI1 1 rfl rfl, by decide, by decide⟩
theorem pnX10_clear : aPn mX10_clear 0 := pd0
theorem plX10_clear : plainFor mX10_clear.1 = true := plainFor_of_name pkX10
theorem wiX10_clear : Cond.instanceMethod mX10_clear.1 ∈ aTb := aI2 236 rfl rfl
theorem wlX10_clear : Cond.selects mX10_clear.1.cls mX10_clear.1 mX10_clear.1 ∈ aTb := aI2 237 rfl rfl
def mX10_bind : aMd := (yX10_bind, cX10_bind, 3, some .int, { frames := 4, cells := 0, slots := 0, locals := 90 })
theorem wmX10_bind : aWm mX10_bind := ⟨aI3 6 rfl rfl, aI1 1 rfl rfl, by decide, by decide⟩
theorem pnX10_bind : aPn mX10_bind 2 := pd20
theorem plX10_bind : plainFor mX10_bind.1 = true := plainFor_of_name pkX10
theorem wiX10_bind : Cond.instanceMethod mX10_bind.1 ∈ aTb := aI3 4 rfl rfl
theorem wlX10_bind : Cond.selects mX10_bind.1.cls mX10_bind.1 mX10_bind.1 ∈ aTb := aI3 5 rfl rfl
def mX10_ratio : aMd := (yX10_ratio, cX10_ratio, 4, some .int, { frames := 3, cells := 0, slots := 0, locals := 72 })
theorem wmX10_ratio : aWm mX10_ratio := ⟨aI3 18 rfl rfl, aI1 1 rfl rfl, by decide, by decide⟩
theorem pnX10_ratio : aPn mX10_ratio 3 := pd10
theorem plX10_ratio : plainFor mX10_ratio.1 = true := plainFor_of_name pkX10
theorem wiX10_ratio : Cond.instanceMethod mX10_ratio.1 ∈ aTb := aI3 16 rfl rfl
theorem wlX10_ratio : Cond.selects mX10_ratio.1.cls mX10_ratio.1 mX10_ratio.1 ∈ aTb := aI3 17 rfl rfl
def mX10_empty : aMd := (yX10_empty, cX10_empty, 2, some .int, { frames := 1, cells := 0, slots := 0, locals := 22 })
theorem wmX10_empty : aWm mX10_empty := ⟨aI3 36 rfl rfl, aI1 1 rfl rfl, by decide, by decide⟩
theorem pnX10_empty : aPn mX10_empty 1 := pd3
theorem plX10_empty : plainFor mX10_empty.1 = true := plainFor_of_name pkX10
theorem wiX10_empty : Cond.instanceMethod mX10_empty.1 ∈ aTb := aI3 34 rfl rfl
theorem wlX10_empty : Cond.selects mX10_empty.1.cls mX10_empty.1 mX10_empty.1 ∈ aTb := aI3 35 rfl rfl
def mX10_weight : aMd := (yX10_weight, cX10_weight, 4, some .int, { frames := 1, cells := 0, slots := 0, locals := 20 })
theorem wmX10_weight : aWm mX10_weight := ⟨aI3 44 rfl rfl, aI1 1 rfl rfl, by decide, by decide⟩
theorem pnX10_weight : aPn mX10_weight 2 := pd6
theorem plX10_weight : plainFor mX10_weight.1 = true := plainFor_of_name pkX10
theorem wiX10_weight : Cond.instanceMethod mX10_weight.1 ∈ aTb := aI3 42 rfl rfl
theorem wlX10_weight : Cond.selects mX10_weight.1.cls mX10_weight.1 mX10_weight.1 ∈ aTb := aI3 43 rfl rfl
def mX10_sets : aMd := (yX10_sets, cX10_sets, 1, some .int, { frames := 0, cells := 0, slots := 0, locals := 0 })
theorem wmX10_sets : aWm mX10_sets := ⟨aI3 50 rfl rfl, aI1 1 rfl rfl, by decide, by decide⟩
theorem pnX10_sets : aPn mX10_sets 0 := pd0
theorem plX10_sets : plainFor mX10_sets.1 = true := plainFor_of_name pkX10
theorem wiX10_sets : Cond.instanceMethod mX10_sets.1 ∈ aTb := aI3 48 rfl rfl
theorem wlX10_sets : Cond.selects mX10_sets.1.cls mX10_sets.1 mX10_sets.1 ∈ aTb := aI3 49 rfl rfl
def mX10_set : aMd := (yX10_set, cX10_set, 3, some .int, { frames := 3, cells := 0, slots := 0, locals := 68 })
theorem wmX10_set : aWm mX10_set := ⟨aI3 54 rfl rfl, aI1 1 rfl rfl, by decide, by decide⟩
theorem pnX10_set : aPn mX10_set 2 := pd6
theorem plX10_set : plainFor mX10_set.1 = true := plainFor_of_name pkX10
theorem wiX10_set : Cond.instanceMethod mX10_set.1 ∈ aTb := aI3 52 rfl rfl
theorem wlX10_set : Cond.selects mX10_set.1.cls mX10_set.1 mX10_set.1 ∈ aTb := aI3 53 rfl rfl
def mX10_sounds : aMd := (yX10_sounds, cX10_sounds, 3, some .int, { frames := 2, cells := 0, slots := 0, locals := 44 })
theorem wmX10_sounds : aWm mX10_sounds := ⟨aI3 77 rfl rfl, aI1 1 rfl rfl, by decide, by decide⟩
theorem pnX10_sounds : aPn mX10_sounds 2 := pd6
theorem plX10_sounds : plainFor mX10_sounds.1 = true := plainFor_of_name pkX10
theorem wiX10_sounds : Cond.instanceMethod mX10_sounds.1 ∈ aTb := aI3 75 rfl rfl
theorem wlX10_sounds : Cond.selects mX10_sounds.1.cls mX10_sounds.1 mX10_sounds.1 ∈ aTb := aI3 76 rfl rfl
def mX10_reading : aMd := (yX10_reading, cX10_reading, 5, some .int, { frames := 4, cells := 0, slots := 0, locals := 90 })
theorem wmX10_reading : aWm mX10_reading := ⟨aI3 82 rfl rfl, aI1 1 rfl rfl, by decide, by decide⟩
theorem pnX10_reading : aPn mX10_reading 4 := pd14
theorem plX10_reading : plainFor mX10_reading.1 = true := plainFor_of_name pkX10
theorem wiX10_reading : Cond.instanceMethod mX10_reading.1 ∈ aTb := aI3 80 rfl rfl
theorem wlX10_reading : Cond.selects mX10_reading.1.cls mX10_reading.1 mX10_reading.1 ∈ aTb := aI3 81 rfl rfl
def mX10_harsh : aMd := (yX10_harsh, cX10_harsh, 3, some .int, { frames := 4, cells := 0, slots := 0, locals := 90 })
theorem wmX10_harsh : aWm mX10_harsh := ⟨aI3 111 rfl rfl, aI1 1 rfl rfl, by decide, by decide⟩
theorem pnX10_harsh : aPn mX10_harsh 2 := pd6
theorem plX10_harsh : plainFor mX10_harsh.1 = true := plainFor_of_name pkX10
theorem wiX10_harsh : Cond.instanceMethod mX10_harsh.1 ∈ aTb := aI3 109 rfl rfl
theorem wlX10_harsh : Cond.selects mX10_harsh.1.cls mX10_harsh.1 mX10_harsh.1 ∈ aTb := aI3 110 rfl rfl
def mX10_choose : aMd := (yX10_choose, cX10_choose, 3, some .long, { frames := 6, cells := 0, slots := 0, locals := 140 })
theorem wmX10_choose : aWm mX10_choose := ⟨aI3 126 rfl rfl, aI1 1 rfl rfl, by decide, by decide⟩
theorem pnX10_choose : aPn mX10_choose 0 := pd1
theorem plX10_choose : plainFor mX10_choose.1 = true := plainFor_of_name pkX10
theorem wiX10_choose : Cond.instanceMethod mX10_choose.1 ∈ aTb := aI3 124 rfl rfl
theorem wlX10_choose : Cond.selects mX10_choose.1.cls mX10_choose.1 mX10_choose.1 ∈ aTb := aI3 125 rfl rfl
def mX10_chosen : aMd := (yX10_chosen, cX10_chosen, 2, some .int, { frames := 1, cells := 0, slots := 0, locals := 21 })
theorem wmX10_chosen : aWm mX10_chosen := ⟨aI3 215 rfl rfl, aI1 1 rfl rfl, by decide, by decide⟩
theorem pnX10_chosen : aPn mX10_chosen 1 := pd3
theorem plX10_chosen : plainFor mX10_chosen.1 = true := plainFor_of_name pkX10
theorem wiX10_chosen : Cond.instanceMethod mX10_chosen.1 ∈ aTb := aI3 213 rfl rfl
theorem wlX10_chosen : Cond.selects mX10_chosen.1.cls mX10_chosen.1 mX10_chosen.1 ∈ aTb := aI3 214 rfl rfl
def mX10_solve : aMd := (yX10_solve, cX10_solve, 1, some .int, { frames := 6, cells := 0, slots := 0, locals := 137 })
theorem wmX10_solve : aWm mX10_solve := ⟨aI3 219 rfl rfl, aI1 1 rfl rfl, by decide, by decide⟩
theorem pnX10_solve : aPn mX10_solve 0 := pd0
theorem plX10_solve : plainFor mX10_solve.1 = true := plainFor_of_name pkX10
theorem wiX10_solve : Cond.instanceMethod mX10_solve.1 ∈ aTb := aI3 217 rfl rfl
theorem wlX10_solve : Cond.selects mX10_solve.1.cls mX10_solve.1 mX10_solve.1 ∈ aTb := aI3 218 rfl rfl
def mX10_variable : aMd := (yX10_variable, cX10_variable, 3, some .int, { frames := 3, cells := 0, slots := 0, locals := 66 })
theorem wmX10_variable : aWm mX10_variable := ⟨aI4 97 rfl rfl, aI1 1 rfl rfl, by decide, by decide⟩
theorem pnX10_variable : aPn mX10_variable 2 := pd6
theorem plX10_variable : plainFor mX10_variable.1 = true := plainFor_of_name pkX10
theorem wiX10_variable : Cond.instanceMethod mX10_variable.1 ∈ aTb := aI4 95 rfl rfl
theorem wlX10_variable : Cond.selects mX10_variable.1.cls mX10_variable.1 mX10_variable.1 ∈ aTb := aI4 96 rfl rfl
def mX10_loose : aMd := (yX10_loose, cX10_loose, 1, some .int, { frames := 0, cells := 0, slots := 0, locals := 0 })
theorem wmX10_loose : aWm mX10_loose := ⟨aI4 102 rfl rfl, aI1 1 rfl rfl, by decide, by decide⟩
theorem pnX10_loose : aPn mX10_loose 0 := pd0
theorem plX10_loose : plainFor mX10_loose.1 = true := plainFor_of_name pkX10
theorem wiX10_loose : Cond.instanceMethod mX10_loose.1 ∈ aTb := aI4 100 rfl rfl
theorem wlX10_loose : Cond.selects mX10_loose.1.cls mX10_loose.1 mX10_loose.1 ∈ aTb := aI4 101 rfl rfl
def mX10_place : aMd := (yX10_place, cX10_place, 4, some .int, { frames := 5, cells := 0, slots := 0, locals := 135 })
theorem wmX10_place : aWm mX10_place := ⟨aI4 106 rfl rfl, aI1 1 rfl rfl, by decide, by decide⟩
theorem pnX10_place : aPn mX10_place 2 := pd6
theorem plX10_place : plainFor mX10_place.1 = true := plainFor_of_name pkX10
theorem wiX10_place : Cond.instanceMethod mX10_place.1 ∈ aTb := aI4 104 rfl rfl
theorem wlX10_place : Cond.selects mX10_place.1.cls mX10_place.1 mX10_place.1 ∈ aTb := aI4 105 rfl rfl
def mX10_move : aMd := (yX10_move, cX10_move, 4, some .int, { frames := 5, cells := 0, slots := 0, locals := 135 })
theorem wmX10_move : aWm mX10_move := ⟨aI4 209 rfl rfl, aI1 1 rfl rfl, by decide, by decide⟩
theorem pnX10_move : aPn mX10_move 2 := pd6
theorem plX10_move : plainFor mX10_move.1 = true := plainFor_of_name pkX10
theorem wiX10_move : Cond.instanceMethod mX10_move.1 ∈ aTb := aI4 207 rfl rfl
theorem wlX10_move : Cond.selects mX10_move.1.cls mX10_move.1 mX10_move.1 ∈ aTb := aI4 208 rfl rfl
def mX10_energy : aMd := (yX10_energy, cX10_energy, 1, some .int, { frames := 5, cells := 0, slots := 0, locals := 135 })
theorem wmX10_energy : aWm mX10_energy := ⟨aI4 213 rfl rfl, aI1 1 rfl rfl, by decide, by decide⟩
theorem pnX10_energy : aPn mX10_energy 0 := pd0
theorem plX10_energy : plainFor mX10_energy.1 = true := plainFor_of_name pkX10
theorem wiX10_energy : Cond.instanceMethod mX10_energy.1 ∈ aTb := aI4 211 rfl rfl
theorem wlX10_energy : Cond.selects mX10_energy.1.cls mX10_energy.1 mX10_energy.1 ∈ aTb := aI4 212 rfl rfl
def mX10_near : aMd := (yX10_near, cX10_near, 4, some .int, { frames := 4, cells := 0, slots := 0, locals := 114 })
theorem wmX10_near : aWm mX10_near := ⟨aI4 217 rfl rfl, aI1 1 rfl rfl, by decide, by decide⟩
theorem pnX10_near : aPn mX10_near 2 := pd6
theorem plX10_near : plainFor mX10_near.1 = true := plainFor_of_name pkX10
theorem wiX10_near : Cond.instanceMethod mX10_near.1 ∈ aTb := aI4 215 rfl rfl
theorem wlX10_near : Cond.selects mX10_near.1.cls mX10_near.1 mX10_near.1 ∈ aTb := aI4 216 rfl rfl
def mX10_text : aMd := (yX10_text, cX10_text, 2, some .int, { frames := 0, cells := 0, slots := 0, locals := 0 })
theorem wmX10_text : aWm mX10_text := ⟨aI4 230 rfl rfl, aI1 1 rfl rfl, by decide, by decide⟩
theorem pnX10_text : aPn mX10_text 1 := pd3
theorem plX10_text : plainFor mX10_text.1 = true := plainFor_of_name pkX10
theorem wiX10_text : Cond.instanceMethod mX10_text.1 ∈ aTb := aI4 228 rfl rfl
theorem wlX10_text : Cond.selects mX10_text.1.cls mX10_text.1 mX10_text.1 ∈ aTb := aI4 229 rfl rfl
def mX10_pure : aMd := (yX10_pure, cX10_pure, 3, some .int, { frames := 1, cells := 0, slots := 0, locals := 21 })
theorem wmX10_pure : aWm mX10_pure := ⟨aI4 234 rfl rfl, aI1 1 rfl rfl, by decide, by decide⟩
theorem pnX10_pure : aPn mX10_pure 2 := pd6
theorem plX10_pure : plainFor mX10_pure.1 = true := plainFor_of_name pkX10
theorem wiX10_pure : Cond.instanceMethod mX10_pure.1 ∈ aTb := aI4 232 rfl rfl
theorem wlX10_pure : Cond.selects mX10_pure.1.cls mX10_pure.1 mX10_pure.1 ∈ aTb := aI4 233 rfl rfl
def mX10_pump : aMd := (yX10_pump, cX10_pump, 3, some .int, { frames := 3, cells := 0, slots := 0, locals := 67 })
theorem wmX10_pump : aWm mX10_pump := ⟨aI4 238 rfl rfl, aI1 1 rfl rfl, by decide, by decide⟩
theorem pnX10_pump : aPn mX10_pump 2 := pd6
theorem plX10_pump : plainFor mX10_pump.1 = true := plainFor_of_name pkX10
theorem wiX10_pump : Cond.instanceMethod mX10_pump.1 ∈ aTb := aI4 236 rfl rfl
theorem wlX10_pump : Cond.selects mX10_pump.1.cls mX10_pump.1 mX10_pump.1 ∈ aTb := aI4 237 rfl rfl
def mX10_forget : aMd := (yX10_forget, cX10_forget, 1, none, { frames := 0, cells := 0, slots := 0, locals := 0 })
theorem wmX10_forget : aWm mX10_forget := ⟨aI2 200 rfl rfl, aI1 1 rfl rfl, by decide, by decide⟩
theorem pnX10_forget : aPn mX10_forget 0 := pd2
theorem plX10_forget : plainFor mX10_forget.1 = true := plainFor_of_name pkX10
theorem wiX10_forget : Cond.instanceMethod mX10_forget.1 ∈ aTb := aI2 199 rfl rfl
theorem wlX10_forget : Cond.selects mX10_forget.1.cls mX10_forget.1 mX10_forget.1 ∈ aTb := aJ 3 rfl rfl
def mX10_takeMove : aMd := (yX10_takeMove, cX10_takeMove, 3, some .int, { frames := 3, cells := 0, slots := 0, locals := 92 })
theorem wmX10_takeMove : aWm mX10_takeMove := ⟨aI4 110 rfl rfl, aI1 1 rfl rfl, by decide, by decide⟩
theorem pnX10_takeMove : aPn mX10_takeMove 2 := pd6
theorem plX10_takeMove : plainFor mX10_takeMove.1 = true := plainFor_of_name pkX10
theorem wiX10_takeMove : Cond.instanceMethod mX10_takeMove.1 ∈ aTb := aI4 109 rfl rfl
theorem wlX10_takeMove : Cond.selects mX10_takeMove.1.cls mX10_takeMove.1 mX10_takeMove.1 ∈ aTb := aJ 39 rfl rfl
def mX11_init : aMd := (yX11_init, cX11_init, 3, none, { frames := 3, cells := 38, slots := 38137, locals := 72 })
theorem wmX11_init : aWm mX11_init := ⟨aI5 15 rfl rfl, aI1 13 rfl rfl, by decide, by decide⟩
theorem pnX11_init : aPn mX11_init 0 := pd2
theorem plX11_init : plainFor mX11_init.1 = true := plainFor_of_name pkX11
theorem wiX11_init : Cond.instanceMethod mX11_init.1 ∈ aTb := aI5 14 rfl rfl
def mX11_put : aMd := (yX11_put, cX11_put, 6, none, { frames := 1, cells := 0, slots := 0, locals := 24 })
theorem wmX11_put : aWm mX11_put := ⟨aI5 28 rfl rfl, aI1 13 rfl rfl, by decide, by decide⟩
theorem pnX11_put : aPn mX11_put 3 := pd12
theorem plX11_put : plainFor mX11_put.1 = true := plainFor_of_name pkX11
theorem wiX11_put : Cond.instanceMethod mX11_put.1 ∈ aTb := aI5 27 rfl rfl
theorem wlX11_put : Cond.selects mX11_put.1.cls mX11_put.1 mX11_put.1 ∈ aTb := aJ 48 rfl rfl
def mX11_powerOf : aMd := (yX11_powerOf, cX11_powerOf, 5, some .int, { frames := 0, cells := 0, slots := 0, locals := 0 })
theorem wmX11_powerOf : aWm mX11_powerOf := ⟨aI5 32 rfl rfl, aI1 13 rfl rfl, by decide, by decide⟩
theorem pnX11_powerOf : aPn mX11_powerOf 2 := pd6
theorem plX11_powerOf : plainFor mX11_powerOf.1 = true := plainFor_of_name pkX11
theorem wiX11_powerOf : Cond.instanceMethod mX11_powerOf.1 ∈ aTb := aI5 31 rfl rfl
theorem wlX11_powerOf : Cond.selects mX11_powerOf.1.cls mX11_powerOf.1 mX11_powerOf.1 ∈ aTb := aJ 49 rfl rfl
def mX11_divide : aMd := (yX11_divide, cX11_divide, 7, none, { frames := 2, cells := 0, slots := 0, locals := 46 })
theorem wmX11_divide : aWm mX11_divide := ⟨aI5 36 rfl rfl, aI1 13 rfl rfl, by decide, by decide⟩
theorem pnX11_divide : aPn mX11_divide 0 := pd2
theorem plX11_divide : plainFor mX11_divide.1 = true := plainFor_of_name pkX11
theorem wiX11_divide : Cond.instanceMethod mX11_divide.1 ∈ aTb := aI5 35 rfl rfl
theorem wlX11_divide : Cond.selects mX11_divide.1.cls mX11_divide.1 mX11_divide.1 ∈ aTb := aJ 50 rfl rfl
def mX11_count : aMd := (yX11_count, cX11_count, 5, none, { frames := 1, cells := 0, slots := 0, locals := 22 })
theorem wmX11_count : aWm mX11_count := ⟨aI5 40 rfl rfl, aI1 13 rfl rfl, by decide, by decide⟩
theorem pnX11_count : aPn mX11_count 0 := pd2
theorem plX11_count : plainFor mX11_count.1 = true := plainFor_of_name pkX11
theorem wiX11_count : Cond.instanceMethod mX11_count.1 ∈ aTb := aI5 39 rfl rfl
theorem wlX11_count : Cond.selects mX11_count.1.cls mX11_count.1 mX11_count.1 ∈ aTb := aJ 51 rfl rfl
def mX11_sounds0 : aMd := (yX11_sounds0, cX11_sounds0, 3, some .boolean, { frames := 0, cells := 0, slots := 0, locals := 0 })
theorem wmX11_sounds0 : aWm mX11_sounds0 := ⟨aI5 44 rfl rfl, aI1 13 rfl rfl, by decide, by decide⟩
theorem pnX11_sounds0 : aPn mX11_sounds0 2 := pd9
theorem plX11_sounds0 : plainFor mX11_sounds0.1 = true := plainFor_of_name pkX11
theorem wiX11_sounds0 : Cond.instanceMethod mX11_sounds0.1 ∈ aTb := aI5 43 rfl rfl
theorem wlX11_sounds0 : Cond.selects mX11_sounds0.1.cls mX11_sounds0.1 mX11_sounds0.1 ∈ aTb := aJ 52 rfl rfl
def mX11_typeOf : aMd := (yX11_typeOf, cX11_typeOf, 3, some .int, { frames := 0, cells := 0, slots := 0, locals := 0 })
theorem wmX11_typeOf : aWm mX11_typeOf := ⟨aI5 48 rfl rfl, aI1 13 rfl rfl, by decide, by decide⟩
theorem pnX11_typeOf : aPn mX11_typeOf 2 := pd6
theorem plX11_typeOf : plainFor mX11_typeOf.1 = true := plainFor_of_name pkX11
theorem wiX11_typeOf : Cond.instanceMethod mX11_typeOf.1 ∈ aTb := aI5 47 rfl rfl
theorem wlX11_typeOf : Cond.selects mX11_typeOf.1.cls mX11_typeOf.1 mX11_typeOf.1 ∈ aTb := aJ 53 rfl rfl
def mX11_octavesOf : aMd := (yX11_octavesOf, cX11_octavesOf, 3, some .int, { frames := 0, cells := 0, slots := 0, locals := 0 })
theorem wmX11_octavesOf : aWm mX11_octavesOf := ⟨aI6 19 rfl rfl, aI1 13 rfl rfl, by decide, by decide⟩
theorem pnX11_octavesOf : aPn mX11_octavesOf 2 := pd6
theorem plX11_octavesOf : plainFor mX11_octavesOf.1 = true := plainFor_of_name pkX11
theorem wiX11_octavesOf : Cond.instanceMethod mX11_octavesOf.1 ∈ aTb := aI6 18 rfl rfl
theorem wlX11_octavesOf : Cond.selects mX11_octavesOf.1.cls mX11_octavesOf.1 mX11_octavesOf.1 ∈ aTb := aJ 60 rfl rfl
def mX11_ratioOf : aMd := (yX11_ratioOf, cX11_ratioOf, 6, some .int, { frames := 1, cells := 0, slots := 0, locals := 22 })
theorem wmX11_ratioOf : aWm mX11_ratioOf := ⟨aI6 11 rfl rfl, aI1 13 rfl rfl, by decide, by decide⟩
theorem pnX11_ratioOf : aPn mX11_ratioOf 3 := pd10
theorem plX11_ratioOf : plainFor mX11_ratioOf.1 = true := plainFor_of_name pkX11
theorem wiX11_ratioOf : Cond.instanceMethod mX11_ratioOf.1 ∈ aTb := aI6 10 rfl rfl
theorem wlX11_ratioOf : Cond.selects mX11_ratioOf.1.cls mX11_ratioOf.1 mX11_ratioOf.1 ∈ aTb := aJ 58 rfl rfl
def mX11_power : aMd := (yX11_power, cX11_power, 3, some .int, { frames := 0, cells := 0, slots := 0, locals := 0 })
theorem wmX11_power : aWm mX11_power := ⟨aI6 23 rfl rfl, aI1 13 rfl rfl, by decide, by decide⟩
theorem pnX11_power : aPn mX11_power 2 := pd6
theorem plX11_power : plainFor mX11_power.1 = true := plainFor_of_name pkX11
theorem wiX11_power : Cond.instanceMethod mX11_power.1 ∈ aTb := aI6 22 rfl rfl
theorem wlX11_power : Cond.selects mX11_power.1.cls mX11_power.1 mX11_power.1 ∈ aTb := aJ 61 rfl rfl
def mX11_targetOf : aMd := (yX11_targetOf, cX11_targetOf, 7, some .int, { frames := 2, cells := 0, slots := 0, locals := 47 })
theorem wmX11_targetOf : aWm mX11_targetOf := ⟨aI6 15 rfl rfl, aI1 13 rfl rfl, by decide, by decide⟩
theorem pnX11_targetOf : aPn mX11_targetOf 3 := pd10
theorem plX11_targetOf : plainFor mX11_targetOf.1 = true := plainFor_of_name pkX11
theorem wiX11_targetOf : Cond.instanceMethod mX11_targetOf.1 ∈ aTb := aI6 14 rfl rfl
theorem wlX11_targetOf : Cond.selects mX11_targetOf.1.cls mX11_targetOf.1 mX11_targetOf.1 ∈ aTb := aJ 59 rfl rfl
def mX11_harshOf : aMd := (yX11_harshOf, cX11_harshOf, 10, some .int, { frames := 2, cells := 0, slots := 0, locals := 47 })
theorem wmX11_harshOf : aWm mX11_harshOf := ⟨aI6 31 rfl rfl, aI1 13 rfl rfl, by decide, by decide⟩
theorem pnX11_harshOf : aPn mX11_harshOf 2 := pd6
theorem plX11_harshOf : plainFor mX11_harshOf.1 = true := plainFor_of_name pkX11
theorem wiX11_harshOf : Cond.instanceMethod mX11_harshOf.1 ∈ aTb := aI6 30 rfl rfl
theorem wlX11_harshOf : Cond.selects mX11_harshOf.1.cls mX11_harshOf.1 mX11_harshOf.1 ∈ aTb := aJ 62 rfl rfl
def mX11_isIn : aMd := (yX11_isIn, cX11_isIn, 4, some .boolean, { frames := 0, cells := 0, slots := 0, locals := 0 })
theorem wmX11_isIn : aWm mX11_isIn := ⟨aI5 198 rfl rfl, aI1 13 rfl rfl, by decide, by decide⟩
theorem pnX11_isIn : aPn mX11_isIn 3 := pd13
theorem plX11_isIn : plainFor mX11_isIn.1 = true := plainFor_of_name pkX11
theorem wiX11_isIn : Cond.instanceMethod mX11_isIn.1 ∈ aTb := aI5 197 rfl rfl
theorem wlX11_isIn : Cond.selects mX11_isIn.1.cls mX11_isIn.1 mX11_isIn.1 ∈ aTb := aJ 54 rfl rfl
def mX11_isNote : aMd := (yX11_isNote, cX11_isNote, 2, some .boolean, { frames := 1, cells := 0, slots := 0, locals := 23 })
theorem wmX11_isNote : aWm mX11_isNote := ⟨aI5 210 rfl rfl, aI1 13 rfl rfl, by decide, by decide⟩
theorem pnX11_isNote : aPn mX11_isNote 1 := pd5
theorem plX11_isNote : plainFor mX11_isNote.1 = true := plainFor_of_name pkX11
theorem wiX11_isNote : Cond.instanceMethod mX11_isNote.1 ∈ aTb := aI5 209 rfl rfl
theorem wlX11_isNote : Cond.selects mX11_isNote.1.cls mX11_isNote.1 mX11_isNote.1 ∈ aTb := aJ 55 rfl rfl
def mX11_isSet : aMd := (yX11_isSet, cX11_isSet, 2, some .boolean, { frames := 1, cells := 0, slots := 0, locals := 23 })
theorem wmX11_isSet : aWm mX11_isSet := ⟨aI5 235 rfl rfl, aI1 13 rfl rfl, by decide, by decide⟩
theorem pnX11_isSet : aPn mX11_isSet 1 := pd5
theorem plX11_isSet : plainFor mX11_isSet.1 = true := plainFor_of_name pkX11
theorem wiX11_isSet : Cond.instanceMethod mX11_isSet.1 ∈ aTb := aI5 234 rfl rfl
theorem wlX11_isSet : Cond.selects mX11_isSet.1.cls mX11_isSet.1 mX11_isSet.1 ∈ aTb := aJ 56 rfl rfl
def mX11_isSounding : aMd := (yX11_isSounding, cX11_isSounding, 3, some .boolean, { frames := 2, cells := 0, slots := 0, locals := 44 })
theorem wmX11_isSounding : aWm mX11_isSounding := ⟨aI6 7 rfl rfl, aI1 13 rfl rfl, by decide, by decide⟩
theorem pnX11_isSounding : aPn mX11_isSounding 2 := pd9
theorem plX11_isSounding : plainFor mX11_isSounding.1 = true := plainFor_of_name pkX11
theorem wiX11_isSounding : Cond.instanceMethod mX11_isSounding.1 ∈ aTb := aI6 6 rfl rfl
theorem wlX11_isSounding : Cond.selects mX11_isSounding.1.cls mX11_isSounding.1 mX11_isSounding.1 ∈ aTb := aJ 57 rfl rfl
def mX11_note : aMd := (yX11_note, cX11_note, 8, some .int, { frames := 3, cells := 0, slots := 0, locals := 72 })
theorem wmX11_note : aWm mX11_note := ⟨aI5 194 rfl rfl, aI1 13 rfl rfl, by decide, by decide⟩
theorem pnX11_note : aPn mX11_note 3 := pd10
theorem plX11_note : plainFor mX11_note.1 = true := plainFor_of_name pkX11
theorem wiX11_note : Cond.instanceMethod mX11_note.1 ∈ aTb := aI5 192 rfl rfl
theorem wlX11_note : Cond.selects mX11_note.1.cls mX11_note.1 mX11_note.1 ∈ aTb := aI5 193 rfl rfl
def mX11_clear : aMd := (yX11_clear, cX11_clear, 2, some .int, { frames := 3, cells := 0, slots := 0, locals := 72 })
theorem wmX11_clear : aWm mX11_clear := ⟨aI5 202 rfl rfl, aI1 13 rfl rfl, by decide, by decide⟩
theorem pnX11_clear : aPn mX11_clear 0 := pd0
theorem plX11_clear : plainFor mX11_clear.1 = true := plainFor_of_name pkX11
theorem wiX11_clear : Cond.instanceMethod mX11_clear.1 ∈ aTb := aI5 200 rfl rfl
theorem wlX11_clear : Cond.selects mX11_clear.1.cls mX11_clear.1 mX11_clear.1 ∈ aTb := aI5 201 rfl rfl
def mX11_bind : aMd := (yX11_bind, cX11_bind, 4, some .int, { frames := 3, cells := 0, slots := 0, locals := 72 })
theorem wmX11_bind : aWm mX11_bind := ⟨aI5 206 rfl rfl, aI1 13 rfl rfl, by decide, by decide⟩
theorem pnX11_bind : aPn mX11_bind 2 := pd20
theorem plX11_bind : plainFor mX11_bind.1 = true := plainFor_of_name pkX11
theorem wiX11_bind : Cond.instanceMethod mX11_bind.1 ∈ aTb := aI5 204 rfl rfl
theorem wlX11_bind : Cond.selects mX11_bind.1.cls mX11_bind.1 mX11_bind.1 ∈ aTb := aI5 205 rfl rfl
def mX11_ratio : aMd := (yX11_ratio, cX11_ratio, 8, some .int, { frames := 3, cells := 0, slots := 0, locals := 72 })
theorem wmX11_ratio : aWm mX11_ratio := ⟨aI5 214 rfl rfl, aI1 13 rfl rfl, by decide, by decide⟩
theorem pnX11_ratio : aPn mX11_ratio 3 := pd10
theorem plX11_ratio : plainFor mX11_ratio.1 = true := plainFor_of_name pkX11
theorem wiX11_ratio : Cond.instanceMethod mX11_ratio.1 ∈ aTb := aI5 212 rfl rfl
theorem wlX11_ratio : Cond.selects mX11_ratio.1.cls mX11_ratio.1 mX11_ratio.1 ∈ aTb := aI5 213 rfl rfl
def mX11_empty : aMd := (yX11_empty, cX11_empty, 3, some .int, { frames := 3, cells := 0, slots := 0, locals := 72 })
theorem wmX11_empty : aWm mX11_empty := ⟨aI5 218 rfl rfl, aI1 13 rfl rfl, by decide, by decide⟩
theorem pnX11_empty : aPn mX11_empty 1 := pd3
theorem plX11_empty : plainFor mX11_empty.1 = true := plainFor_of_name pkX11
theorem wiX11_empty : Cond.instanceMethod mX11_empty.1 ∈ aTb := aI5 216 rfl rfl
theorem wlX11_empty : Cond.selects mX11_empty.1.cls mX11_empty.1 mX11_empty.1 ∈ aTb := aI5 217 rfl rfl
def mX11_weight : aMd := (yX11_weight, cX11_weight, 4, some .int, { frames := 3, cells := 0, slots := 0, locals := 72 })
theorem wmX11_weight : aWm mX11_weight := ⟨aI5 222 rfl rfl, aI1 13 rfl rfl, by decide, by decide⟩
theorem pnX11_weight : aPn mX11_weight 2 := pd6
theorem plX11_weight : plainFor mX11_weight.1 = true := plainFor_of_name pkX11
theorem wiX11_weight : Cond.instanceMethod mX11_weight.1 ∈ aTb := aI5 220 rfl rfl
theorem wlX11_weight : Cond.selects mX11_weight.1.cls mX11_weight.1 mX11_weight.1 ∈ aTb := aI5 221 rfl rfl
def mX11_sets : aMd := (yX11_sets, cX11_sets, 1, some .int, { frames := 0, cells := 0, slots := 0, locals := 0 })
theorem wmX11_sets : aWm mX11_sets := ⟨aI5 227 rfl rfl, aI1 13 rfl rfl, by decide, by decide⟩
theorem pnX11_sets : aPn mX11_sets 0 := pd0
theorem plX11_sets : plainFor mX11_sets.1 = true := plainFor_of_name pkX11
theorem wiX11_sets : Cond.instanceMethod mX11_sets.1 ∈ aTb := aI5 225 rfl rfl
theorem wlX11_sets : Cond.selects mX11_sets.1.cls mX11_sets.1 mX11_sets.1 ∈ aTb := aI5 226 rfl rfl
def mX11_set : aMd := (yX11_set, cX11_set, 3, some .int, { frames := 2, cells := 0, slots := 0, locals := 44 })
theorem wmX11_set : aWm mX11_set := ⟨aI5 231 rfl rfl, aI1 13 rfl rfl, by decide, by decide⟩
theorem pnX11_set : aPn mX11_set 2 := pd6
theorem plX11_set : plainFor mX11_set.1 = true := plainFor_of_name pkX11
theorem wiX11_set : Cond.instanceMethod mX11_set.1 ∈ aTb := aI5 229 rfl rfl
theorem wlX11_set : Cond.selects mX11_set.1.cls mX11_set.1 mX11_set.1 ∈ aTb := aI5 230 rfl rfl
def mX11_sounds : aMd := (yX11_sounds, cX11_sounds, 3, some .int, { frames := 2, cells := 0, slots := 0, locals := 44 })
theorem wmX11_sounds : aWm mX11_sounds := ⟨aI5 239 rfl rfl, aI1 13 rfl rfl, by decide, by decide⟩
theorem pnX11_sounds : aPn mX11_sounds 2 := pd6
theorem plX11_sounds : plainFor mX11_sounds.1 = true := plainFor_of_name pkX11
theorem wiX11_sounds : Cond.instanceMethod mX11_sounds.1 ∈ aTb := aI5 237 rfl rfl
theorem wlX11_sounds : Cond.selects mX11_sounds.1.cls mX11_sounds.1 mX11_sounds.1 ∈ aTb := aI5 238 rfl rfl
def mX11_reading : aMd := (yX11_reading, cX11_reading, 6, some .int, { frames := 3, cells := 0, slots := 0, locals := 73 })
theorem wmX11_reading : aWm mX11_reading := ⟨aI6 3 rfl rfl, aI1 13 rfl rfl, by decide, by decide⟩
theorem pnX11_reading : aPn mX11_reading 4 := pd14
theorem plX11_reading : plainFor mX11_reading.1 = true := plainFor_of_name pkX11
theorem wiX11_reading : Cond.instanceMethod mX11_reading.1 ∈ aTb := aI6 1 rfl rfl
theorem wlX11_reading : Cond.selects mX11_reading.1.cls mX11_reading.1 mX11_reading.1 ∈ aTb := aI6 2 rfl rfl
def mX11_harsh : aMd := (yX11_harsh, cX11_harsh, 3, some .int, { frames := 3, cells := 0, slots := 0, locals := 76 })
theorem wmX11_harsh : aWm mX11_harsh := ⟨aI6 27 rfl rfl, aI1 13 rfl rfl, by decide, by decide⟩
theorem pnX11_harsh : aPn mX11_harsh 2 := pd6
theorem plX11_harsh : plainFor mX11_harsh.1 = true := plainFor_of_name pkX11
theorem wiX11_harsh : Cond.instanceMethod mX11_harsh.1 ∈ aTb := aI6 25 rfl rfl
theorem wlX11_harsh : Cond.selects mX11_harsh.1.cls mX11_harsh.1 mX11_harsh.1 ∈ aTb := aI6 26 rfl rfl
def mX11_strain : aMd := (yX11_strain, cX11_strain, 12, some .long, { frames := 1, cells := 0, slots := 0, locals := 22 })
theorem wmX11_strain : aWm mX11_strain := ⟨aI6 41 rfl rfl, aI1 13 rfl rfl, by decide, by decide⟩
theorem pnX11_strain : aPn mX11_strain 3 := pd11
theorem plX11_strain : plainFor mX11_strain.1 = true := plainFor_of_name pkX11
theorem wiX11_strain : Cond.instanceMethod mX11_strain.1 ∈ aTb := aI6 40 rfl rfl
theorem wlX11_strain : Cond.selects mX11_strain.1.cls mX11_strain.1 mX11_strain.1 ∈ aTb := aJ 63 rfl rfl
def mX11_choose : aMd := (yX11_choose, cX11_choose, 12, some .long, { frames := 3, cells := 0, slots := 0, locals := 76 })
theorem wmX11_choose : aWm mX11_choose := ⟨aI6 35 rfl rfl, aI1 13 rfl rfl, by decide, by decide⟩
theorem pnX11_choose : aPn mX11_choose 0 := pd1
theorem plX11_choose : plainFor mX11_choose.1 = true := plainFor_of_name pkX11
theorem wiX11_choose : Cond.instanceMethod mX11_choose.1 ∈ aTb := aI6 33 rfl rfl
theorem wlX11_choose : Cond.selects mX11_choose.1.cls mX11_choose.1 mX11_choose.1 ∈ aTb := aI6 34 rfl rfl
def mX11_chosen : aMd := (yX11_chosen, cX11_chosen, 2, some .int, { frames := 2, cells := 0, slots := 0, locals := 44 })
theorem wmX11_chosen : aWm mX11_chosen := ⟨aI6 45 rfl rfl, aI1 13 rfl rfl, by decide, by decide⟩
theorem pnX11_chosen : aPn mX11_chosen 1 := pd3
theorem plX11_chosen : plainFor mX11_chosen.1 = true := plainFor_of_name pkX11
theorem wiX11_chosen : Cond.instanceMethod mX11_chosen.1 ∈ aTb := aI6 43 rfl rfl
theorem wlX11_chosen : Cond.selects mX11_chosen.1.cls mX11_chosen.1 mX11_chosen.1 ∈ aTb := aI6 44 rfl rfl
def mX11_addTerm : aMd := (yX11_addTerm, cX11_addTerm, 10, none, { frames := 0, cells := 0, slots := 0, locals := 0 })
theorem wmX11_addTerm : aWm mX11_addTerm := ⟨aI6 57 rfl rfl, aI1 13 rfl rfl, by decide, by decide⟩
theorem pnX11_addTerm : aPn mX11_addTerm 4 := pd17
theorem plX11_addTerm : plainFor mX11_addTerm.1 = true := plainFor_of_name pkX11
theorem wiX11_addTerm : Cond.instanceMethod mX11_addTerm.1 ∈ aTb := aI6 56 rfl rfl
theorem wlX11_addTerm : Cond.selects mX11_addTerm.1.cls mX11_addTerm.1 mX11_addTerm.1 ∈ aTb := aJ 65 rfl rfl
def mX11_build : aMd := (yX11_build, cX11_build, 8, none, { frames := 3, cells := 0, slots := 0, locals := 73 })
theorem wmX11_build : aWm mX11_build := ⟨aI6 53 rfl rfl, aI1 13 rfl rfl, by decide, by decide⟩
theorem pnX11_build : aPn mX11_build 0 := pd2
theorem plX11_build : plainFor mX11_build.1 = true := plainFor_of_name pkX11
theorem wiX11_build : Cond.instanceMethod mX11_build.1 ∈ aTb := aI6 52 rfl rfl
theorem wlX11_build : Cond.selects mX11_build.1.cls mX11_build.1 mX11_build.1 ∈ aTb := aJ 64 rfl rfl
def mX11_nextPrime : aMd := (yX11_nextPrime, cX11_nextPrime, 3, some .long, { frames := 1, cells := 0, slots := 0, locals := 24 })
theorem wmX11_nextPrime : aWm mX11_nextPrime := ⟨aI6 61 rfl rfl, aI1 13 rfl rfl, by decide, by decide⟩
theorem pnX11_nextPrime : aPn mX11_nextPrime 0 := pd1
theorem plX11_nextPrime : plainFor mX11_nextPrime.1 = true := plainFor_of_name pkX11
theorem wiX11_nextPrime : Cond.instanceMethod mX11_nextPrime.1 ∈ aTb := aI6 60 rfl rfl
theorem wlX11_nextPrime : Cond.selects mX11_nextPrime.1.cls mX11_nextPrime.1 mX11_nextPrime.1 ∈ aTb := aJ 66 rfl rfl
def mX11_isPrime : aMd := (yX11_isPrime, cX11_isPrime, 5, some .boolean, { frames := 0, cells := 0, slots := 0, locals := 0 })
theorem wmX11_isPrime : aWm mX11_isPrime := ⟨aI6 67 rfl rfl, aI1 13 rfl rfl, by decide, by decide⟩
theorem pnX11_isPrime : aPn mX11_isPrime 1 := pd25
theorem plX11_isPrime : plainFor mX11_isPrime.1 = true := plainFor_of_name pkX11
theorem wiX11_isPrime : Cond.instanceMethod mX11_isPrime.1 ∈ aTb := aI6 66 rfl rfl
theorem wlX11_isPrime : Cond.selects mX11_isPrime.1.cls mX11_isPrime.1 mX11_isPrime.1 ∈ aTb := aJ 67 rfl rfl
def mX11_mod : aMd := (yX11_mod, cX11_mod, 7, some .long, { frames := 0, cells := 0, slots := 0, locals := 0 })
theorem wmX11_mod : aWm mX11_mod := ⟨aI6 76 rfl rfl, aI1 13 rfl rfl, by decide, by decide⟩
theorem pnX11_mod : aPn mX11_mod 2 := pd26
theorem plX11_mod : plainFor mX11_mod.1 = true := plainFor_of_name pkX11
theorem wiX11_mod : Cond.instanceMethod mX11_mod.1 ∈ aTb := aI6 75 rfl rfl
theorem wlX11_mod : Cond.selects mX11_mod.1.cls mX11_mod.1 mX11_mod.1 ∈ aTb := aJ 69 rfl rfl
def mX11_inverse : aMd := (yX11_inverse, cX11_inverse, 11, some .long, { frames := 0, cells := 0, slots := 0, locals := 0 })
theorem wmX11_inverse : aWm mX11_inverse := ⟨aI6 80 rfl rfl, aI1 13 rfl rfl, by decide, by decide⟩
theorem pnX11_inverse : aPn mX11_inverse 2 := pd26
theorem plX11_inverse : plainFor mX11_inverse.1 = true := plainFor_of_name pkX11
theorem wiX11_inverse : Cond.instanceMethod mX11_inverse.1 ∈ aTb := aI6 79 rfl rfl
theorem wlX11_inverse : Cond.selects mX11_inverse.1.cls mX11_inverse.1 mX11_inverse.1 ∈ aTb := aJ 70 rfl rfl
def mX11_byPrime : aMd := (yX11_byPrime, cX11_byPrime, 14, some .boolean, { frames := 1, cells := 0, slots := 0, locals := 30 })
theorem wmX11_byPrime : aWm mX11_byPrime := ⟨aI6 72 rfl rfl, aI1 13 rfl rfl, by decide, by decide⟩
theorem pnX11_byPrime : aPn mX11_byPrime 1 := pd25
theorem plX11_byPrime : plainFor mX11_byPrime.1 = true := plainFor_of_name pkX11
theorem wiX11_byPrime : Cond.instanceMethod mX11_byPrime.1 ∈ aTb := aI6 71 rfl rfl
theorem wlX11_byPrime : Cond.selects mX11_byPrime.1.cls mX11_byPrime.1 mX11_byPrime.1 ∈ aTb := aJ 68 rfl rfl
def mX11_solve : aMd := (yX11_solve, cX11_solve, 4, some .int, { frames := 4, cells := 0, slots := 0, locals := 100 })
theorem wmX11_solve : aWm mX11_solve := ⟨aI6 49 rfl rfl, aI1 13 rfl rfl, by decide, by decide⟩
theorem pnX11_solve : aPn mX11_solve 0 := pd0
theorem plX11_solve : plainFor mX11_solve.1 = true := plainFor_of_name pkX11
theorem wiX11_solve : Cond.instanceMethod mX11_solve.1 ∈ aTb := aI6 47 rfl rfl
theorem wlX11_solve : Cond.selects mX11_solve.1.cls mX11_solve.1 mX11_solve.1 ∈ aTb := aI6 48 rfl rfl
def mX11_variable : aMd := (yX11_variable, cX11_variable, 3, some .int, { frames := 3, cells := 0, slots := 0, locals := 66 })
theorem wmX11_variable : aWm mX11_variable := ⟨aI6 84 rfl rfl, aI1 13 rfl rfl, by decide, by decide⟩
theorem pnX11_variable : aPn mX11_variable 2 := pd6
theorem plX11_variable : plainFor mX11_variable.1 = true := plainFor_of_name pkX11
theorem wiX11_variable : Cond.instanceMethod mX11_variable.1 ∈ aTb := aI6 82 rfl rfl
theorem wlX11_variable : Cond.selects mX11_variable.1.cls mX11_variable.1 mX11_variable.1 ∈ aTb := aI6 83 rfl rfl
def mX11_loose : aMd := (yX11_loose, cX11_loose, 1, some .int, { frames := 0, cells := 0, slots := 0, locals := 0 })
theorem wmX11_loose : aWm mX11_loose := ⟨aI6 88 rfl rfl, aI1 13 rfl rfl, by decide, by decide⟩
theorem pnX11_loose : aPn mX11_loose 0 := pd0
theorem plX11_loose : plainFor mX11_loose.1 = true := plainFor_of_name pkX11
theorem wiX11_loose : Cond.instanceMethod mX11_loose.1 ∈ aTb := aI6 86 rfl rfl
theorem wlX11_loose : Cond.selects mX11_loose.1.cls mX11_loose.1 mX11_loose.1 ∈ aTb := aI6 87 rfl rfl
def mX11_zero : aMd := (yX11_zero, cX11_zero, 3, none, { frames := 0, cells := 0, slots := 0, locals := 0 })
theorem wmX11_zero : aWm mX11_zero := ⟨aI6 104 rfl rfl, aI1 13 rfl rfl, by decide, by decide⟩
theorem pnX11_zero : aPn mX11_zero 1 := pd4
theorem plX11_zero : plainFor mX11_zero.1 = true := plainFor_of_name pkX11
theorem wiX11_zero : Cond.instanceMethod mX11_zero.1 ∈ aTb := aI6 103 rfl rfl
theorem wlX11_zero : Cond.selects mX11_zero.1.cls mX11_zero.1 mX11_zero.1 ∈ aTb := aJ 73 rfl rfl
def mX11_copy : aMd := (yX11_copy, cX11_copy, 4, none, { frames := 0, cells := 0, slots := 0, locals := 0 })
theorem wmX11_copy : aWm mX11_copy := ⟨aI6 117 rfl rfl, aI1 13 rfl rfl, by decide, by decide⟩
theorem pnX11_copy : aPn mX11_copy 2 := pd8
theorem plX11_copy : plainFor mX11_copy.1 = true := plainFor_of_name pkX11
theorem wiX11_copy : Cond.instanceMethod mX11_copy.1 ∈ aTb := aI6 116 rfl rfl
theorem wlX11_copy : Cond.selects mX11_copy.1.cls mX11_copy.1 mX11_copy.1 ∈ aTb := aJ 76 rfl rfl
def mX11_step : aMd := (yX11_step, cX11_step, 11, none, { frames := 0, cells := 0, slots := 0, locals := 0 })
theorem wmX11_step : aWm mX11_step := ⟨aI6 113 rfl rfl, aI1 13 rfl rfl, by decide, by decide⟩
theorem pnX11_step : aPn mX11_step 3 := pd19
theorem plX11_step : plainFor mX11_step.1 = true := plainFor_of_name pkX11
theorem wiX11_step : Cond.instanceMethod mX11_step.1 ∈ aTb := aI6 112 rfl rfl
theorem wlX11_step : Cond.selects mX11_step.1.cls mX11_step.1 mX11_step.1 ∈ aTb := aJ 75 rfl rfl
def mX11_add : aMd := (yX11_add, cX11_add, 10, none, { frames := 0, cells := 0, slots := 0, locals := 0 })
theorem wmX11_add : aWm mX11_add := ⟨aI6 108 rfl rfl, aI1 13 rfl rfl, by decide, by decide⟩
theorem pnX11_add : aPn mX11_add 3 := pd16
theorem plX11_add : plainFor mX11_add.1 = true := plainFor_of_name pkX11
theorem wiX11_add : Cond.instanceMethod mX11_add.1 ∈ aTb := aI6 107 rfl rfl
theorem wlX11_add : Cond.selects mX11_add.1.cls mX11_add.1 mX11_add.1 ∈ aTb := aJ 74 rfl rfl
def mX11_less : aMd := (yX11_less, cX11_less, 8, none, { frames := 0, cells := 0, slots := 0, locals := 0 })
theorem wmX11_less : aWm mX11_less := ⟨aI6 125 rfl rfl, aI1 13 rfl rfl, by decide, by decide⟩
theorem pnX11_less : aPn mX11_less 2 := pd8
theorem plX11_less : plainFor mX11_less.1 = true := plainFor_of_name pkX11
theorem wiX11_less : Cond.instanceMethod mX11_less.1 ∈ aTb := aI6 124 rfl rfl
theorem wlX11_less : Cond.selects mX11_less.1.cls mX11_less.1 mX11_less.1 ∈ aTb := aJ 78 rfl rfl
def mX11_compare : aMd := (yX11_compare, cX11_compare, 6, some .int, { frames := 0, cells := 0, slots := 0, locals := 0 })
theorem wmX11_compare : aWm mX11_compare := ⟨aI6 121 rfl rfl, aI1 13 rfl rfl, by decide, by decide⟩
theorem pnX11_compare : aPn mX11_compare 2 := pd6
theorem plX11_compare : plainFor mX11_compare.1 = true := plainFor_of_name pkX11
theorem wiX11_compare : Cond.instanceMethod mX11_compare.1 ∈ aTb := aI6 120 rfl rfl
theorem wlX11_compare : Cond.selects mX11_compare.1.cls mX11_compare.1 mX11_compare.1 ∈ aTb := aJ 77 rfl rfl
def mX11_isZero : aMd := (yX11_isZero, cX11_isZero, 4, some .boolean, { frames := 0, cells := 0, slots := 0, locals := 0 })
theorem wmX11_isZero : aWm mX11_isZero := ⟨aI6 137 rfl rfl, aI1 13 rfl rfl, by decide, by decide⟩
theorem pnX11_isZero : aPn mX11_isZero 1 := pd5
theorem plX11_isZero : plainFor mX11_isZero.1 = true := plainFor_of_name pkX11
theorem wiX11_isZero : Cond.instanceMethod mX11_isZero.1 ∈ aTb := aI6 136 rfl rfl
theorem wlX11_isZero : Cond.selects mX11_isZero.1.cls mX11_isZero.1 mX11_isZero.1 ∈ aTb := aJ 81 rfl rfl
def mX11_halve : aMd := (yX11_halve, cX11_halve, 7, none, { frames := 0, cells := 0, slots := 0, locals := 0 })
theorem wmX11_halve : aWm mX11_halve := ⟨aI6 145 rfl rfl, aI1 13 rfl rfl, by decide, by decide⟩
theorem pnX11_halve : aPn mX11_halve 1 := pd4
theorem plX11_halve : plainFor mX11_halve.1 = true := plainFor_of_name pkX11
theorem wiX11_halve : Cond.instanceMethod mX11_halve.1 ∈ aTb := aI6 144 rfl rfl
theorem wlX11_halve : Cond.selects mX11_halve.1.cls mX11_halve.1 mX11_halve.1 ∈ aTb := aJ 83 rfl rfl
def mX11_isOdd : aMd := (yX11_isOdd, cX11_isOdd, 2, some .boolean, { frames := 0, cells := 0, slots := 0, locals := 0 })
theorem wmX11_isOdd : aWm mX11_isOdd := ⟨aI6 141 rfl rfl, aI1 13 rfl rfl, by decide, by decide⟩
theorem pnX11_isOdd : aPn mX11_isOdd 1 := pd5
theorem plX11_isOdd : plainFor mX11_isOdd.1 = true := plainFor_of_name pkX11
theorem wiX11_isOdd : Cond.instanceMethod mX11_isOdd.1 ∈ aTb := aI6 140 rfl rfl
theorem wlX11_isOdd : Cond.selects mX11_isOdd.1.cls mX11_isOdd.1 mX11_isOdd.1 ∈ aTb := aJ 82 rfl rfl
def mX11_divisor : aMd := (yX11_divisor, cX11_divisor, 6, none, { frames := 1, cells := 0, slots := 0, locals := 30 })
theorem wmX11_divisor : aWm mX11_divisor := ⟨aI6 133 rfl rfl, aI1 13 rfl rfl, by decide, by decide⟩
theorem pnX11_divisor : aPn mX11_divisor 3 := pd12
theorem plX11_divisor : plainFor mX11_divisor.1 = true := plainFor_of_name pkX11
theorem wiX11_divisor : Cond.instanceMethod mX11_divisor.1 ∈ aTb := aI6 132 rfl rfl
theorem wlX11_divisor : Cond.selects mX11_divisor.1.cls mX11_divisor.1 mX11_divisor.1 ∈ aTb := aJ 80 rfl rfl
def mX11_divide_ : aMd := (yX11_divide_, cX11_divide_, 13, none, { frames := 1, cells := 0, slots := 0, locals := 29 })
theorem wmX11_divide_ : aWm mX11_divide_ := ⟨aI6 149 rfl rfl, aI1 13 rfl rfl, by decide, by decide⟩
theorem pnX11_divide_ : aPn mX11_divide_ 3 := pd12
theorem plX11_divide_ : plainFor mX11_divide_.1 = true := plainFor_of_name pkX11
theorem wiX11_divide_ : Cond.instanceMethod mX11_divide_.1 ∈ aTb := aI6 148 rfl rfl
theorem wlX11_divide_ : Cond.selects mX11_divide_.1.cls mX11_divide_.1 mX11_divide_.1 ∈ aTb := aJ 84 rfl rfl
def mX11_moved : aMd := (yX11_moved, cX11_moved, 10, none, { frames := 0, cells := 0, slots := 0, locals := 0 })
theorem wmX11_moved : aWm mX11_moved := ⟨aI6 153 rfl rfl, aI1 13 rfl rfl, by decide, by decide⟩
theorem pnX11_moved : aPn mX11_moved 3 := pd18
theorem plX11_moved : plainFor mX11_moved.1 = true := plainFor_of_name pkX11
theorem wiX11_moved : Cond.instanceMethod mX11_moved.1 ∈ aTb := aI6 152 rfl rfl
theorem wlX11_moved : Cond.selects mX11_moved.1.cls mX11_moved.1 mX11_moved.1 ∈ aTb := aJ 85 rfl rfl
def mX11_join : aMd := (yX11_join, cX11_join, 13, some .boolean, { frames := 1, cells := 0, slots := 0, locals := 30 })
theorem wmX11_join : aWm mX11_join := ⟨aI6 100 rfl rfl, aI1 13 rfl rfl, by decide, by decide⟩
theorem pnX11_join : aPn mX11_join 2 := pd9
theorem plX11_join : plainFor mX11_join.1 = true := plainFor_of_name pkX11
theorem wiX11_join : Cond.instanceMethod mX11_join.1 ∈ aTb := aI6 99 rfl rfl
theorem wlX11_join : Cond.selects mX11_join.1.cls mX11_join.1 mX11_join.1 ∈ aTb := aJ 72 rfl rfl
def mX11_write : aMd := (yX11_write, cX11_write, 8, none, { frames := 0, cells := 0, slots := 0, locals := 0 })
theorem wmX11_write : aWm mX11_write := ⟨aI6 157 rfl rfl, aI1 13 rfl rfl, by decide, by decide⟩
theorem pnX11_write : aPn mX11_write 1 := pd4
theorem plX11_write : plainFor mX11_write.1 = true := plainFor_of_name pkX11
theorem wiX11_write : Cond.instanceMethod mX11_write.1 ∈ aTb := aI6 156 rfl rfl
theorem wlX11_write : Cond.selects mX11_write.1.cls mX11_write.1 mX11_write.1 ∈ aTb := aJ 86 rfl rfl
def mX11_tell : aMd := (yX11_tell, cX11_tell, 2, some .int, { frames := 2, cells := 0, slots := 0, locals := 61 })
theorem wmX11_tell : aWm mX11_tell := ⟨aI6 129 rfl rfl, aI1 13 rfl rfl, by decide, by decide⟩
theorem pnX11_tell : aPn mX11_tell 1 := pd38
theorem plX11_tell : plainFor mX11_tell.1 = true := plainFor_of_name pkX11
theorem wiX11_tell : Cond.instanceMethod mX11_tell.1 ∈ aTb := aI6 128 rfl rfl
theorem wlX11_tell : Cond.selects mX11_tell.1.cls mX11_tell.1 mX11_tell.1 ∈ aTb := aJ 79 rfl rfl
def mX11_fraction : aMd := (yX11_fraction, cX11_fraction, 4, some .boolean, { frames := 2, cells := 0, slots := 0, locals := 62 })
theorem wmX11_fraction : aWm mX11_fraction := ⟨aI6 96 rfl rfl, aI1 13 rfl rfl, by decide, by decide⟩
theorem pnX11_fraction : aPn mX11_fraction 1 := pd5
theorem plX11_fraction : plainFor mX11_fraction.1 = true := plainFor_of_name pkX11
theorem wiX11_fraction : Cond.instanceMethod mX11_fraction.1 ∈ aTb := aI6 95 rfl rfl
theorem wlX11_fraction : Cond.selects mX11_fraction.1.cls mX11_fraction.1 mX11_fraction.1 ∈ aTb := aJ 71 rfl rfl
def mX11_place : aMd := (yX11_place, cX11_place, 3, some .int, { frames := 3, cells := 0, slots := 0, locals := 85 })
theorem wmX11_place : aWm mX11_place := ⟨aI6 92 rfl rfl, aI1 13 rfl rfl, by decide, by decide⟩
theorem pnX11_place : aPn mX11_place 2 := pd6
theorem plX11_place : plainFor mX11_place.1 = true := plainFor_of_name pkX11
theorem wiX11_place : Cond.instanceMethod mX11_place.1 ∈ aTb := aI6 90 rfl rfl
theorem wlX11_place : Cond.selects mX11_place.1.cls mX11_place.1 mX11_place.1 ∈ aTb := aI6 91 rfl rfl
def mX11_move : aMd := (yX11_move, cX11_move, 4, some .int, { frames := 3, cells := 0, slots := 0, locals := 85 })
theorem wmX11_move : aWm mX11_move := ⟨aI6 164 rfl rfl, aI1 13 rfl rfl, by decide, by decide⟩
theorem pnX11_move : aPn mX11_move 2 := pd6
theorem plX11_move : plainFor mX11_move.1 = true := plainFor_of_name pkX11
theorem wiX11_move : Cond.instanceMethod mX11_move.1 ∈ aTb := aI6 162 rfl rfl
theorem wlX11_move : Cond.selects mX11_move.1.cls mX11_move.1 mX11_move.1 ∈ aTb := aI6 163 rfl rfl
def mX11_energy : aMd := (yX11_energy, cX11_energy, 1, some .int, { frames := 3, cells := 0, slots := 0, locals := 85 })
theorem wmX11_energy : aWm mX11_energy := ⟨aI6 169 rfl rfl, aI1 13 rfl rfl, by decide, by decide⟩
theorem pnX11_energy : aPn mX11_energy 0 := pd0
theorem plX11_energy : plainFor mX11_energy.1 = true := plainFor_of_name pkX11
theorem wiX11_energy : Cond.instanceMethod mX11_energy.1 ∈ aTb := aI6 167 rfl rfl
theorem wlX11_energy : Cond.selects mX11_energy.1.cls mX11_energy.1 mX11_energy.1 ∈ aTb := aI6 168 rfl rfl
def mX11_near : aMd := (yX11_near, cX11_near, 5, some .int, { frames := 3, cells := 0, slots := 0, locals := 85 })
theorem wmX11_near : aWm mX11_near := ⟨aI6 173 rfl rfl, aI1 13 rfl rfl, by decide, by decide⟩
theorem pnX11_near : aPn mX11_near 2 := pd6
theorem plX11_near : plainFor mX11_near.1 = true := plainFor_of_name pkX11
theorem wiX11_near : Cond.instanceMethod mX11_near.1 ∈ aTb := aI6 171 rfl rfl
theorem wlX11_near : Cond.selects mX11_near.1.cls mX11_near.1 mX11_near.1 ∈ aTb := aI6 172 rfl rfl
def mX11_text : aMd := (yX11_text, cX11_text, 2, some .int, { frames := 1, cells := 0, slots := 0, locals := 23 })
theorem wmX11_text : aWm mX11_text := ⟨aI6 177 rfl rfl, aI1 13 rfl rfl, by decide, by decide⟩
theorem pnX11_text : aPn mX11_text 1 := pd3
theorem plX11_text : plainFor mX11_text.1 = true := plainFor_of_name pkX11
theorem wiX11_text : Cond.instanceMethod mX11_text.1 ∈ aTb := aI6 175 rfl rfl
theorem wlX11_text : Cond.selects mX11_text.1.cls mX11_text.1 mX11_text.1 ∈ aTb := aI6 176 rfl rfl
def mX11_shifts : aMd := (yX11_shifts, cX11_shifts, 5, none, { frames := 2, cells := 0, slots := 0, locals := 47 })
theorem wmX11_shifts : aWm mX11_shifts := ⟨aI6 185 rfl rfl, aI1 13 rfl rfl, by decide, by decide⟩
theorem pnX11_shifts : aPn mX11_shifts 0 := pd2
theorem plX11_shifts : plainFor mX11_shifts.1 = true := plainFor_of_name pkX11
theorem wiX11_shifts : Cond.instanceMethod mX11_shifts.1 ∈ aTb := aI6 184 rfl rfl
theorem wlX11_shifts : Cond.selects mX11_shifts.1.cls mX11_shifts.1 mX11_shifts.1 ∈ aTb := aJ 87 rfl rfl
def mX11_pure : aMd := (yX11_pure, cX11_pure, 3, some .int, { frames := 3, cells := 0, slots := 0, locals := 71 })
theorem wmX11_pure : aWm mX11_pure := ⟨aI6 181 rfl rfl, aI1 13 rfl rfl, by decide, by decide⟩
theorem pnX11_pure : aPn mX11_pure 2 := pd6
theorem plX11_pure : plainFor mX11_pure.1 = true := plainFor_of_name pkX11
theorem wiX11_pure : Cond.instanceMethod mX11_pure.1 ∈ aTb := aI6 179 rfl rfl
theorem wlX11_pure : Cond.selects mX11_pure.1.cls mX11_pure.1 mX11_pure.1 ∈ aTb := aI6 180 rfl rfl
def mX11_pump : aMd := (yX11_pump, cX11_pump, 6, some .int, { frames := 3, cells := 0, slots := 0, locals := 71 })
theorem wmX11_pump : aWm mX11_pump := ⟨aI6 189 rfl rfl, aI1 13 rfl rfl, by decide, by decide⟩
theorem pnX11_pump : aPn mX11_pump 2 := pd6
theorem plX11_pump : plainFor mX11_pump.1 = true := plainFor_of_name pkX11
theorem wiX11_pump : Cond.instanceMethod mX11_pump.1 ∈ aTb := aI6 187 rfl rfl
theorem wlX11_pump : Cond.selects mX11_pump.1.cls mX11_pump.1 mX11_pump.1 ∈ aTb := aI6 188 rfl rfl
def mJ6_bitCount_0f7a4 : aMd := (yJ6_bitCount_0f7a4, cJ6_bitCount_0f7a4, 1, some .int, { frames := 0, cells := 0, slots := 0, locals := 0 })
theorem wmJ6_bitCount_0f7a4 : aWm mJ6_bitCount_0f7a4 := ⟨aI4 162 rfl rfl, aI1 16 rfl rfl, by decide, by decide⟩
theorem pnJ6_bitCount_0f7a4 : aPn mJ6_bitCount_0f7a4 1 := pd3
theorem plJ6_bitCount_0f7a4 : plainFor mJ6_bitCount_0f7a4.1 = true := by decide +kernel
theorem wsJ6_bitCount_0f7a4 : Cond.static mJ6_bitCount_0f7a4.1 ∈ aTb := aI4 161 rfl rfl
def mJ9_floorMod_7cf53 : aMd := (yJ9_floorMod_7cf53, cJ9_floorMod_7cf53, 3, some .int, { frames := 0, cells := 0, slots := 0, locals := 0 })
theorem wmJ9_floorMod_7cf53 : aWm mJ9_floorMod_7cf53 := ⟨aI3 73 rfl rfl, aI1 14 rfl rfl, by decide, by decide⟩
theorem pnJ9_floorMod_7cf53 : aPn mJ9_floorMod_7cf53 2 := pd6
theorem plJ9_floorMod_7cf53 : plainFor mJ9_floorMod_7cf53.1 = true := by decide +kernel
theorem wsJ9_floorMod_7cf53 : Cond.static mJ9_floorMod_7cf53.1 ∈ aTb := aI3 72 rfl rfl
def mJ9_floorMod_f86c9 : aMd := (yJ9_floorMod_f86c9, cJ9_floorMod_f86c9, 6, some .long, { frames := 0, cells := 0, slots := 0, locals := 0 })
theorem wmJ9_floorMod_f86c9 : aWm mJ9_floorMod_f86c9 := ⟨aI4 49 rfl rfl, aI1 14 rfl rfl, by decide, by decide⟩
theorem pnJ9_floorMod_f86c9 : aPn mJ9_floorMod_f86c9 2 := pd26
theorem plJ9_floorMod_f86c9 : plainFor mJ9_floorMod_f86c9.1 = true := by decide +kernel
theorem wsJ9_floorMod_f86c9 : Cond.static mJ9_floorMod_f86c9.1 ∈ aTb := aI4 48 rfl rfl
def mJ9_abs_0f7a4 : aMd := (yJ9_abs_0f7a4, cJ9_abs_0f7a4, 1, some .int, { frames := 0, cells := 0, slots := 0, locals := 0 })
theorem wmJ9_abs_0f7a4 : aWm mJ9_abs_0f7a4 := ⟨aI3 122 rfl rfl, aI1 14 rfl rfl, by decide, by decide⟩
theorem pnJ9_abs_0f7a4 : aPn mJ9_abs_0f7a4 1 := pd3
theorem plJ9_abs_0f7a4 : plainFor mJ9_abs_0f7a4.1 = true := by decide +kernel
theorem wsJ9_abs_0f7a4 : Cond.static mJ9_abs_0f7a4.1 ∈ aTb := aI3 121 rfl rfl
def mJ9_max_7cf53 : aMd := (yJ9_max_7cf53, cJ9_max_7cf53, 2, some .int, { frames := 0, cells := 0, slots := 0, locals := 0 })
theorem wmJ9_max_7cf53 : aWm mJ9_max_7cf53 := ⟨aI2 222 rfl rfl, aI1 14 rfl rfl, by decide, by decide⟩
theorem pnJ9_max_7cf53 : aPn mJ9_max_7cf53 2 := pd6
theorem plJ9_max_7cf53 : plainFor mJ9_max_7cf53.1 = true := by decide +kernel
theorem wsJ9_max_7cf53 : Cond.static mJ9_max_7cf53.1 ∈ aTb := aI2 221 rfl rfl
def mJ9_min_7cf53 : aMd := (yJ9_min_7cf53, cJ9_min_7cf53, 2, some .int, { frames := 0, cells := 0, slots := 0, locals := 0 })
theorem wmJ9_min_7cf53 : aWm mJ9_min_7cf53 := ⟨aI2 215 rfl rfl, aI1 14 rfl rfl, by decide, by decide⟩
theorem pnJ9_min_7cf53 : aPn mJ9_min_7cf53 2 := pd6
theorem plJ9_min_7cf53 : plainFor mJ9_min_7cf53.1 = true := by decide +kernel
theorem wsJ9_min_7cf53 : Cond.static mJ9_min_7cf53.1 ∈ aTb := aI2 214 rfl rfl
def mJ7_fill_d0a16 : aMd := (yJ7_fill_d0a16, cJ7_fill_d0a16, 5, none, { frames := 0, cells := 0, slots := 0, locals := 0 })
theorem wmJ7_fill_d0a16 : aWm mJ7_fill_d0a16 := ⟨aI3 231 rfl rfl, aI1 15 rfl rfl, by decide, by decide⟩
theorem pnJ7_fill_d0a16 : aPn mJ7_fill_d0a16 2 := pd41
theorem plJ7_fill_d0a16 : plainFor mJ7_fill_d0a16.1 = true := by decide +kernel
theorem wsJ7_fill_d0a16 : Cond.static mJ7_fill_d0a16.1 ∈ aTb := aI3 230 rfl rfl
def mJ7_fill_53178 : aMd := (yJ7_fill_53178, cJ7_fill_53178, 4, none, { frames := 0, cells := 0, slots := 0, locals := 0 })
theorem wmJ7_fill_53178 : aWm mJ7_fill_53178 := ⟨aI4 88 rfl rfl, aI1 15 rfl rfl, by decide, by decide⟩
theorem pnJ7_fill_53178 : aPn mJ7_fill_53178 2 := pd40
theorem plJ7_fill_53178 : plainFor mJ7_fill_53178.1 = true := by decide +kernel
theorem wsJ7_fill_53178 : Cond.static mJ7_fill_53178.1 ∈ aTb := aI4 87 rfl rfl
