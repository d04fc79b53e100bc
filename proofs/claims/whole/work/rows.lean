section
-- ===== PART A: goes FIRST, ahead of the names: the tables' words, and 'selects' of the private methods out of them =====
/-- a private method of a class that the tables say can be made, by its rows of tables_1 -/
def lw_okq (q : MethodName × Nat) : Prop := (q.1.cls ≠ "java/lang/invoke/MethodHandle" ∧ q.1.cls ≠ "java/lang/invoke/VarHandle") ∧ Cond.instantiable q.1.cls q.2 ∈ tables_1 ∧ Cond.privateMethod q.1 ∈ tables_1 ∧ Cond.instanceMethod q.1 ∈ tables_1
theorem lw_p0 : lw_okq (⟨"JustMoves$Ratios", "store", "(III)V"⟩, 5) := ⟨⟨by decide +kernel, by decide +kernel⟩, List.mem_of_getElem? (i := 26) (by decide +kernel), List.mem_of_getElem? (i := 40) (by decide +kernel), List.mem_of_getElem? (i := 41) (by decide +kernel)⟩
theorem lw_p1 : lw_okq (⟨"JustMoves$Score", "soundingAt", "(I)I"⟩, 15) := ⟨⟨by decide +kernel, by decide +kernel⟩, List.mem_of_getElem? (i := 74) (by decide +kernel), List.mem_of_getElem? (i := 430) (by decide +kernel), List.mem_of_getElem? (i := 431) (by decide +kernel)⟩
theorem lw_p2 : lw_okq (⟨"JustMoves$Score", "isAt", "(II)Z"⟩, 15) := ⟨⟨by decide +kernel, by decide +kernel⟩, List.mem_of_getElem? (i := 74) (by decide +kernel), List.mem_of_getElem? (i := 434) (by decide +kernel), List.mem_of_getElem? (i := 435) (by decide +kernel)⟩
theorem lw_p3 : lw_okq (⟨"JustMoves", "forget", "()V"⟩, 12) := ⟨⟨by decide +kernel, by decide +kernel⟩, List.mem_of_getElem? (i := 18) (by decide +kernel), List.mem_of_getElem? (i := 438) (by decide +kernel), List.mem_of_getElem? (i := 439) (by decide +kernel)⟩
theorem lw_p4 : lw_okq (⟨"JustMoves$Score", "findSets", "()V"⟩, 15) := ⟨⟨by decide +kernel, by decide +kernel⟩, List.mem_of_getElem? (i := 74) (by decide +kernel), List.mem_of_getElem? (i := 446) (by decide +kernel), List.mem_of_getElem? (i := 447) (by decide +kernel)⟩
theorem lw_p5 : lw_okq (⟨"JustMoves$Score", "tickAfter", "(I)I"⟩, 15) := ⟨⟨by decide +kernel, by decide +kernel⟩, List.mem_of_getElem? (i := 74) (by decide +kernel), List.mem_of_getElem? (i := 450) (by decide +kernel), List.mem_of_getElem? (i := 451) (by decide +kernel)⟩
theorem lw_p6 : lw_okq (⟨"JustMoves$Score", "appendSet", "(II)V"⟩, 15) := ⟨⟨by decide +kernel, by decide +kernel⟩, List.mem_of_getElem? (i := 74) (by decide +kernel), List.mem_of_getElem? (i := 457) (by decide +kernel), List.mem_of_getElem? (i := 458) (by decide +kernel)⟩
theorem lw_p7 : lw_okq (⟨"JustMoves$Score", "numberVariables", "()V"⟩, 15) := ⟨⟨by decide +kernel, by decide +kernel⟩, List.mem_of_getElem? (i := 74) (by decide +kernel), List.mem_of_getElem? (i := 464) (by decide +kernel), List.mem_of_getElem? (i := 465) (by decide +kernel)⟩
theorem lw_p8 : lw_okq (⟨"JustMoves$Readings", "typeOf", "(II)I"⟩, 3) := ⟨⟨by decide +kernel, by decide +kernel⟩, List.mem_of_getElem? (i := 209) (by decide +kernel), List.mem_of_getElem? (i := 544) (by decide +kernel), List.mem_of_getElem? (i := 545) (by decide +kernel)⟩
theorem lw_p9 : lw_okq (⟨"JustMoves$Readings", "stepsAboveBase", "(II)I"⟩, 3) := ⟨⟨by decide +kernel, by decide +kernel⟩, List.mem_of_getElem? (i := 209) (by decide +kernel), List.mem_of_getElem? (i := 548) (by decide +kernel), List.mem_of_getElem? (i := 549) (by decide +kernel)⟩
theorem lw_p10 : lw_okq (⟨"JustMoves$Choice", "countReadings", "()V"⟩, 10) := ⟨⟨by decide +kernel, by decide +kernel⟩, List.mem_of_getElem? (i := 227) (by decide +kernel), List.mem_of_getElem? (i := 624) (by decide +kernel), List.mem_of_getElem? (i := 625) (by decide +kernel)⟩
theorem lw_p11 : lw_okq (⟨"JustMoves$Choice", "weighReadings", "(I)V"⟩, 10) := ⟨⟨by decide +kernel, by decide +kernel⟩, List.mem_of_getElem? (i := 227) (by decide +kernel), List.mem_of_getElem? (i := 630) (by decide +kernel), List.mem_of_getElem? (i := 631) (by decide +kernel)⟩
theorem lw_p12 : lw_okq (⟨"JustMoves$Choice", "joinNext", "(I)V"⟩, 10) := ⟨⟨by decide +kernel, by decide +kernel⟩, List.mem_of_getElem? (i := 227) (by decide +kernel), List.mem_of_getElem? (i := 636) (by decide +kernel), List.mem_of_getElem? (i := 637) (by decide +kernel)⟩
theorem lw_p13 : lw_okq (⟨"JustMoves$Choice", "fillOffsets", "(I[I)V"⟩, 10) := ⟨⟨by decide +kernel, by decide +kernel⟩, List.mem_of_getElem? (i := 227) (by decide +kernel), List.mem_of_getElem? (i := 644) (by decide +kernel), List.mem_of_getElem? (i := 645) (by decide +kernel)⟩
theorem lw_p14 : lw_okq (⟨"JustMoves$Choice", "joinReading", "(II)V"⟩, 10) := ⟨⟨by decide +kernel, by decide +kernel⟩, List.mem_of_getElem? (i := 227) (by decide +kernel), List.mem_of_getElem? (i := 653) (by decide +kernel), List.mem_of_getElem? (i := 654) (by decide +kernel)⟩
theorem lw_p15 : lw_okq (⟨"JustMoves$Choice", "strain", "(II)J"⟩, 10) := ⟨⟨by decide +kernel, by decide +kernel⟩, List.mem_of_getElem? (i := 227) (by decide +kernel), List.mem_of_getElem? (i := 658) (by decide +kernel), List.mem_of_getElem? (i := 659) (by decide +kernel)⟩
def lw_privs_1 : List (MethodName × Nat) := [(⟨"JustMoves$Ratios", "store", "(III)V"⟩, 5), (⟨"JustMoves$Score", "soundingAt", "(I)I"⟩, 15), (⟨"JustMoves$Score", "isAt", "(II)Z"⟩, 15), (⟨"JustMoves", "forget", "()V"⟩, 12), (⟨"JustMoves$Score", "findSets", "()V"⟩, 15), (⟨"JustMoves$Score", "tickAfter", "(I)I"⟩, 15), (⟨"JustMoves$Score", "appendSet", "(II)V"⟩, 15), (⟨"JustMoves$Score", "numberVariables", "()V"⟩, 15), (⟨"JustMoves$Readings", "typeOf", "(II)I"⟩, 3), (⟨"JustMoves$Readings", "stepsAboveBase", "(II)I"⟩, 3), (⟨"JustMoves$Choice", "countReadings", "()V"⟩, 10), (⟨"JustMoves$Choice", "weighReadings", "(I)V"⟩, 10), (⟨"JustMoves$Choice", "joinNext", "(I)V"⟩, 10), (⟨"JustMoves$Choice", "fillOffsets", "(I[I)V"⟩, 10), (⟨"JustMoves$Choice", "joinReading", "(II)V"⟩, 10), (⟨"JustMoves$Choice", "strain", "(II)J"⟩, 10)]
theorem lw_r1 : ∀ q ∈ lw_privs_1, lw_okq q := List.forall_mem_cons.mpr ⟨lw_p0, List.forall_mem_cons.mpr ⟨lw_p1, List.forall_mem_cons.mpr ⟨lw_p2, List.forall_mem_cons.mpr ⟨lw_p3, List.forall_mem_cons.mpr ⟨lw_p4, List.forall_mem_cons.mpr ⟨lw_p5, List.forall_mem_cons.mpr ⟨lw_p6, List.forall_mem_cons.mpr ⟨lw_p7, List.forall_mem_cons.mpr ⟨lw_p8, List.forall_mem_cons.mpr ⟨lw_p9, List.forall_mem_cons.mpr ⟨lw_p10, List.forall_mem_cons.mpr ⟨lw_p11, List.forall_mem_cons.mpr ⟨lw_p12, List.forall_mem_cons.mpr ⟨lw_p13, List.forall_mem_cons.mpr ⟨lw_p14, List.forall_mem_cons.mpr ⟨lw_p15, fun _ h => absurd h List.not_mem_nil⟩⟩⟩⟩⟩⟩⟩⟩⟩⟩⟩⟩⟩⟩⟩⟩
theorem lw_p16 : lw_okq (⟨"JustMoves$Choice", "followLeast", "()J"⟩, 10) := ⟨⟨by decide +kernel, by decide +kernel⟩, List.mem_of_getElem? (i := 227) (by decide +kernel), List.mem_of_getElem? (i := 663) (by decide +kernel), List.mem_of_getElem? (i := 664) (by decide +kernel)⟩
theorem lw_p17 : lw_okq (⟨"JustMoves$Chains", "goOn", "(II)V"⟩, 9) := ⟨⟨by decide +kernel, by decide +kernel⟩, List.mem_of_getElem? (i := 268) (by decide +kernel), List.mem_of_getElem? (i := 672) (by decide +kernel), List.mem_of_getElem? (i := 673) (by decide +kernel)⟩
theorem lw_p18 : lw_okq (⟨"JustMoves$Chains", "multiply", "(IIII)V"⟩, 9) := ⟨⟨by decide +kernel, by decide +kernel⟩, List.mem_of_getElem? (i := 268) (by decide +kernel), List.mem_of_getElem? (i := 677) (by decide +kernel), List.mem_of_getElem? (i := 678) (by decide +kernel)⟩
theorem lw_p19 : lw_okq (⟨"JustMoves$Chains", "begin", "(I)V"⟩, 9) := ⟨⟨by decide +kernel, by decide +kernel⟩, List.mem_of_getElem? (i := 268) (by decide +kernel), List.mem_of_getElem? (i := 683) (by decide +kernel), List.mem_of_getElem? (i := 684) (by decide +kernel)⟩
theorem lw_p20 : lw_okq (⟨"JustMoves$Chains", "driftOf", "(I)I"⟩, 9) := ⟨⟨by decide +kernel, by decide +kernel⟩, List.mem_of_getElem? (i := 268) (by decide +kernel), List.mem_of_getElem? (i := 687) (by decide +kernel), List.mem_of_getElem? (i := 688) (by decide +kernel)⟩
theorem lw_p21 : lw_okq (⟨"JustMoves$Squares", "reset", "()V"⟩, 10) := ⟨⟨by decide +kernel, by decide +kernel⟩, List.mem_of_getElem? (i := 305) (by decide +kernel), List.mem_of_getElem? (i := 705) (by decide +kernel), List.mem_of_getElem? (i := 706) (by decide +kernel)⟩
theorem lw_p22 : lw_okq (⟨"JustMoves$Squares", "addChord", "(I)V"⟩, 10) := ⟨⟨by decide +kernel, by decide +kernel⟩, List.mem_of_getElem? (i := 305) (by decide +kernel), List.mem_of_getElem? (i := 713) (by decide +kernel), List.mem_of_getElem? (i := 714) (by decide +kernel)⟩
theorem lw_p23 : lw_okq (⟨"JustMoves$Squares", "addPair", "(IIJJ)V"⟩, 10) := ⟨⟨by decide +kernel, by decide +kernel⟩, List.mem_of_getElem? (i := 305) (by decide +kernel), List.mem_of_getElem? (i := 724) (by decide +kernel), List.mem_of_getElem? (i := 725) (by decide +kernel)⟩
theorem lw_p24 : lw_okq (⟨"JustMoves$Squares", "addMoves", "(I)V"⟩, 10) := ⟨⟨by decide +kernel, by decide +kernel⟩, List.mem_of_getElem? (i := 305) (by decide +kernel), List.mem_of_getElem? (i := 728) (by decide +kernel), List.mem_of_getElem? (i := 729) (by decide +kernel)⟩
theorem lw_p25 : lw_okq (⟨"JustMoves$Squares", "addEquals", "(I)V"⟩, 10) := ⟨⟨by decide +kernel, by decide +kernel⟩, List.mem_of_getElem? (i := 305) (by decide +kernel), List.mem_of_getElem? (i := 733) (by decide +kernel), List.mem_of_getElem? (i := 734) (by decide +kernel)⟩
theorem lw_p26 : lw_okq (⟨"JustMoves$Squares", "fixLoose", "()V"⟩, 10) := ⟨⟨by decide +kernel, by decide +kernel⟩, List.mem_of_getElem? (i := 305) (by decide +kernel), List.mem_of_getElem? (i := 737) (by decide +kernel), List.mem_of_getElem? (i := 738) (by decide +kernel)⟩
theorem lw_p27 : lw_okq (⟨"JustMoves$Squares", "findLasts", "()V"⟩, 10) := ⟨⟨by decide +kernel, by decide +kernel⟩, List.mem_of_getElem? (i := 305) (by decide +kernel), List.mem_of_getElem? (i := 741) (by decide +kernel), List.mem_of_getElem? (i := 742) (by decide +kernel)⟩
theorem lw_p28 : lw_okq (⟨"JustMoves$Squares", "pullLast", "(I)Z"⟩, 10) := ⟨⟨by decide +kernel, by decide +kernel⟩, List.mem_of_getElem? (i := 305) (by decide +kernel), List.mem_of_getElem? (i := 745) (by decide +kernel), List.mem_of_getElem? (i := 746) (by decide +kernel)⟩
theorem lw_p29 : lw_okq (⟨"JustMoves$Squares", "fix", "(I)V"⟩, 10) := ⟨⟨by decide +kernel, by decide +kernel⟩, List.mem_of_getElem? (i := 305) (by decide +kernel), List.mem_of_getElem? (i := 750) (by decide +kernel), List.mem_of_getElem? (i := 751) (by decide +kernel)⟩
theorem lw_p30 : lw_okq (⟨"JustMoves$Solver", "solveBy", "(J[J)Z"⟩, 8) := ⟨⟨by decide +kernel, by decide +kernel⟩, List.mem_of_getElem? (i := 349) (by decide +kernel), List.mem_of_getElem? (i := 760) (by decide +kernel), List.mem_of_getElem? (i := 761) (by decide +kernel)⟩
theorem lw_p31 : lw_okq (⟨"JustMoves$Solver", "load", "(J)V"⟩, 8) := ⟨⟨by decide +kernel, by decide +kernel⟩, List.mem_of_getElem? (i := 349) (by decide +kernel), List.mem_of_getElem? (i := 764) (by decide +kernel), List.mem_of_getElem? (i := 765) (by decide +kernel)⟩
def lw_privs_2 : List (MethodName × Nat) := [(⟨"JustMoves$Choice", "followLeast", "()J"⟩, 10), (⟨"JustMoves$Chains", "goOn", "(II)V"⟩, 9), (⟨"JustMoves$Chains", "multiply", "(IIII)V"⟩, 9), (⟨"JustMoves$Chains", "begin", "(I)V"⟩, 9), (⟨"JustMoves$Chains", "driftOf", "(I)I"⟩, 9), (⟨"JustMoves$Squares", "reset", "()V"⟩, 10), (⟨"JustMoves$Squares", "addChord", "(I)V"⟩, 10), (⟨"JustMoves$Squares", "addPair", "(IIJJ)V"⟩, 10), (⟨"JustMoves$Squares", "addMoves", "(I)V"⟩, 10), (⟨"JustMoves$Squares", "addEquals", "(I)V"⟩, 10), (⟨"JustMoves$Squares", "fixLoose", "()V"⟩, 10), (⟨"JustMoves$Squares", "findLasts", "()V"⟩, 10), (⟨"JustMoves$Squares", "pullLast", "(I)Z"⟩, 10), (⟨"JustMoves$Squares", "fix", "(I)V"⟩, 10), (⟨"JustMoves$Solver", "solveBy", "(J[J)Z"⟩, 8), (⟨"JustMoves$Solver", "load", "(J)V"⟩, 8)]
theorem lw_r2 : ∀ q ∈ lw_privs_2, lw_okq q := List.forall_mem_cons.mpr ⟨lw_p16, List.forall_mem_cons.mpr ⟨lw_p17, List.forall_mem_cons.mpr ⟨lw_p18, List.forall_mem_cons.mpr ⟨lw_p19, List.forall_mem_cons.mpr ⟨lw_p20, List.forall_mem_cons.mpr ⟨lw_p21, List.forall_mem_cons.mpr ⟨lw_p22, List.forall_mem_cons.mpr ⟨lw_p23, List.forall_mem_cons.mpr ⟨lw_p24, List.forall_mem_cons.mpr ⟨lw_p25, List.forall_mem_cons.mpr ⟨lw_p26, List.forall_mem_cons.mpr ⟨lw_p27, List.forall_mem_cons.mpr ⟨lw_p28, List.forall_mem_cons.mpr ⟨lw_p29, List.forall_mem_cons.mpr ⟨lw_p30, List.forall_mem_cons.mpr ⟨lw_p31, fun _ h => absurd h List.not_mem_nil⟩⟩⟩⟩⟩⟩⟩⟩⟩⟩⟩⟩⟩⟩⟩⟩
theorem lw_p32 : lw_okq (⟨"JustMoves$Solver", "eliminate", "(J)J"⟩, 8) := ⟨⟨by decide +kernel, by decide +kernel⟩, List.mem_of_getElem? (i := 349) (by decide +kernel), List.mem_of_getElem? (i := 771) (by decide +kernel), List.mem_of_getElem? (i := 772) (by decide +kernel)⟩
theorem lw_p33 : lw_okq (⟨"JustMoves$Solver", "findRow", "(I)I"⟩, 8) := ⟨⟨by decide +kernel, by decide +kernel⟩, List.mem_of_getElem? (i := 349) (by decide +kernel), List.mem_of_getElem? (i := 775) (by decide +kernel), List.mem_of_getElem? (i := 776) (by decide +kernel)⟩
theorem lw_p34 : lw_okq (⟨"JustMoves$Solver", "swapRows", "(II)V"⟩, 8) := ⟨⟨by decide +kernel, by decide +kernel⟩, List.mem_of_getElem? (i := 349) (by decide +kernel), List.mem_of_getElem? (i := 779) (by decide +kernel), List.mem_of_getElem? (i := 780) (by decide +kernel)⟩
theorem lw_p35 : lw_okq (⟨"JustMoves$Solver", "subtractRow", "(IIJ)V"⟩, 8) := ⟨⟨by decide +kernel, by decide +kernel⟩, List.mem_of_getElem? (i := 349) (by decide +kernel), List.mem_of_getElem? (i := 787) (by decide +kernel), List.mem_of_getElem? (i := 788) (by decide +kernel)⟩
theorem lw_p36 : lw_okq (⟨"JustMoves$Solver", "useModulus", "(J)V"⟩, 8) := ⟨⟨by decide +kernel, by decide +kernel⟩, List.mem_of_getElem? (i := 349) (by decide +kernel), List.mem_of_getElem? (i := 791) (by decide +kernel), List.mem_of_getElem? (i := 792) (by decide +kernel)⟩
theorem lw_p37 : lw_okq (⟨"JustMoves$Solver", "putTogether", "(I)V"⟩, 8) := ⟨⟨by decide +kernel, by decide +kernel⟩, List.mem_of_getElem? (i := 349) (by decide +kernel), List.mem_of_getElem? (i := 795) (by decide +kernel), List.mem_of_getElem? (i := 796) (by decide +kernel)⟩
theorem lw_p38 : lw_okq (⟨"JustMoves$Solver", "findDigits", "(II)V"⟩, 8) := ⟨⟨by decide +kernel, by decide +kernel⟩, List.mem_of_getElem? (i := 349) (by decide +kernel), List.mem_of_getElem? (i := 799) (by decide +kernel), List.mem_of_getElem? (i := 800) (by decide +kernel)⟩
theorem lw_p39 : lw_okq (⟨"JustMoves", "takeMove", "(II)I"⟩, 12) := ⟨⟨by decide +kernel, by decide +kernel⟩, List.mem_of_getElem? (i := 18) (by decide +kernel), List.mem_of_getElem? (i := 828) (by decide +kernel), List.mem_of_getElem? (i := 829) (by decide +kernel)⟩
theorem lw_p40 : lw_okq (⟨"JustMoves$Whole", "combine", "(LJustMoves$Whole;LJustMoves$Whole;I)V"⟩, 2) := ⟨⟨by decide +kernel, by decide +kernel⟩, List.mem_of_getElem? (i := 157) (by decide +kernel), List.mem_of_getElem? (i := 854) (by decide +kernel), List.mem_of_getElem? (i := 855) (by decide +kernel)⟩
theorem lw_p41 : lw_okq (⟨"JustMoves$Whole", "limbAt", "(I)I"⟩, 2) := ⟨⟨by decide +kernel, by decide +kernel⟩, List.mem_of_getElem? (i := 157) (by decide +kernel), List.mem_of_getElem? (i := 892) (by decide +kernel), List.mem_of_getElem? (i := 893) (by decide +kernel)⟩
theorem lw_p42 : lw_okq (⟨"JustMoves$Fraction", "findOddDivisor", "()V"⟩, 4) := ⟨⟨by decide +kernel, by decide +kernel⟩, List.mem_of_getElem? (i := 151) (by decide +kernel), List.mem_of_getElem? (i := 896) (by decide +kernel), List.mem_of_getElem? (i := 897) (by decide +kernel)⟩
theorem lw_p43 : lw_okq (⟨"JustMoves$Whole", "inverseOfLowest", "()I"⟩, 2) := ⟨⟨by decide +kernel, by decide +kernel⟩, List.mem_of_getElem? (i := 157) (by decide +kernel), List.mem_of_getElem? (i := 909) (by decide +kernel), List.mem_of_getElem? (i := 910) (by decide +kernel)⟩
theorem lw_p44 : lw_okq (⟨"JustMoves$Text", "append", "(I)V"⟩, 2) := ⟨⟨by decide +kernel, by decide +kernel⟩, List.mem_of_getElem? (i := 188) (by decide +kernel), List.mem_of_getElem? (i := 913) (by decide +kernel), List.mem_of_getElem? (i := 914) (by decide +kernel)⟩
theorem lw_p45 : lw_okq (⟨"JustMoves$Text", "appendSize", "(LJustMoves$Whole;)V"⟩, 2) := ⟨⟨by decide +kernel, by decide +kernel⟩, List.mem_of_getElem? (i := 188) (by decide +kernel), List.mem_of_getElem? (i := 917) (by decide +kernel), List.mem_of_getElem? (i := 918) (by decide +kernel)⟩
theorem lw_p46 : lw_okq (⟨"JustMoves$Fraction", "quotientOfSizes", "()I"⟩, 4) := ⟨⟨by decide +kernel, by decide +kernel⟩, List.mem_of_getElem? (i := 151) (by decide +kernel), List.mem_of_getElem? (i := 943) (by decide +kernel), List.mem_of_getElem? (i := 944) (by decide +kernel)⟩
theorem lw_p47 : lw_okq (⟨"JustMoves$Chains", "isPump", "(II)Z"⟩, 9) := ⟨⟨by decide +kernel, by decide +kernel⟩, List.mem_of_getElem? (i := 268) (by decide +kernel), List.mem_of_getElem? (i := 964) (by decide +kernel), List.mem_of_getElem? (i := 965) (by decide +kernel)⟩
def lw_privs_3 : List (MethodName × Nat) := [(⟨"JustMoves$Solver", "eliminate", "(J)J"⟩, 8), (⟨"JustMoves$Solver", "findRow", "(I)I"⟩, 8), (⟨"JustMoves$Solver", "swapRows", "(II)V"⟩, 8), (⟨"JustMoves$Solver", "subtractRow", "(IIJ)V"⟩, 8), (⟨"JustMoves$Solver", "useModulus", "(J)V"⟩, 8), (⟨"JustMoves$Solver", "putTogether", "(I)V"⟩, 8), (⟨"JustMoves$Solver", "findDigits", "(II)V"⟩, 8), (⟨"JustMoves", "takeMove", "(II)I"⟩, 12), (⟨"JustMoves$Whole", "combine", "(LJustMoves$Whole;LJustMoves$Whole;I)V"⟩, 2), (⟨"JustMoves$Whole", "limbAt", "(I)I"⟩, 2), (⟨"JustMoves$Fraction", "findOddDivisor", "()V"⟩, 4), (⟨"JustMoves$Whole", "inverseOfLowest", "()I"⟩, 2), (⟨"JustMoves$Text", "append", "(I)V"⟩, 2), (⟨"JustMoves$Text", "appendSize", "(LJustMoves$Whole;)V"⟩, 2), (⟨"JustMoves$Fraction", "quotientOfSizes", "()I"⟩, 4), (⟨"JustMoves$Chains", "isPump", "(II)Z"⟩, 9)]
theorem lw_r3 : ∀ q ∈ lw_privs_3, lw_okq q := List.forall_mem_cons.mpr ⟨lw_p32, List.forall_mem_cons.mpr ⟨lw_p33, List.forall_mem_cons.mpr ⟨lw_p34, List.forall_mem_cons.mpr ⟨lw_p35, List.forall_mem_cons.mpr ⟨lw_p36, List.forall_mem_cons.mpr ⟨lw_p37, List.forall_mem_cons.mpr ⟨lw_p38, List.forall_mem_cons.mpr ⟨lw_p39, List.forall_mem_cons.mpr ⟨lw_p40, List.forall_mem_cons.mpr ⟨lw_p41, List.forall_mem_cons.mpr ⟨lw_p42, List.forall_mem_cons.mpr ⟨lw_p43, List.forall_mem_cons.mpr ⟨lw_p44, List.forall_mem_cons.mpr ⟨lw_p45, List.forall_mem_cons.mpr ⟨lw_p46, List.forall_mem_cons.mpr ⟨lw_p47, fun _ h => absurd h List.not_mem_nil⟩⟩⟩⟩⟩⟩⟩⟩⟩⟩⟩⟩⟩⟩⟩⟩
theorem lw_p48 : lw_okq (⟨"JustMovesModel", "put", "(III)V"⟩, 47) := ⟨⟨by decide +kernel, by decide +kernel⟩, List.mem_of_getElem? (i := 972) (by decide +kernel), List.mem_of_getElem? (i := 986) (by decide +kernel), List.mem_of_getElem? (i := 987) (by decide +kernel)⟩
theorem lw_p49 : lw_okq (⟨"JustMovesModel", "powerOf", "(II)I"⟩, 47) := ⟨⟨by decide +kernel, by decide +kernel⟩, List.mem_of_getElem? (i := 972) (by decide +kernel), List.mem_of_getElem? (i := 990) (by decide +kernel), List.mem_of_getElem? (i := 991) (by decide +kernel)⟩
theorem lw_p50 : lw_okq (⟨"JustMovesModel", "divide", "()V"⟩, 47) := ⟨⟨by decide +kernel, by decide +kernel⟩, List.mem_of_getElem? (i := 972) (by decide +kernel), List.mem_of_getElem? (i := 994) (by decide +kernel), List.mem_of_getElem? (i := 995) (by decide +kernel)⟩
theorem lw_p51 : lw_okq (⟨"JustMovesModel", "count", "()V"⟩, 47) := ⟨⟨by decide +kernel, by decide +kernel⟩, List.mem_of_getElem? (i := 972) (by decide +kernel), List.mem_of_getElem? (i := 998) (by decide +kernel), List.mem_of_getElem? (i := 999) (by decide +kernel)⟩
theorem lw_p52 : lw_okq (⟨"JustMovesModel", "sounds0", "(II)Z"⟩, 47) := ⟨⟨by decide +kernel, by decide +kernel⟩, List.mem_of_getElem? (i := 972) (by decide +kernel), List.mem_of_getElem? (i := 1002) (by decide +kernel), List.mem_of_getElem? (i := 1003) (by decide +kernel)⟩
theorem lw_p53 : lw_okq (⟨"JustMovesModel", "typeOf", "(II)I"⟩, 47) := ⟨⟨by decide +kernel, by decide +kernel⟩, List.mem_of_getElem? (i := 972) (by decide +kernel), List.mem_of_getElem? (i := 1006) (by decide +kernel), List.mem_of_getElem? (i := 1007) (by decide +kernel)⟩
theorem lw_p54 : lw_okq (⟨"JustMovesModel", "isIn", "(III)Z"⟩, 47) := ⟨⟨by decide +kernel, by decide +kernel⟩, List.mem_of_getElem? (i := 972) (by decide +kernel), List.mem_of_getElem? (i := 1156) (by decide +kernel), List.mem_of_getElem? (i := 1157) (by decide +kernel)⟩
theorem lw_p55 : lw_okq (⟨"JustMovesModel", "isNote", "(I)Z"⟩, 47) := ⟨⟨by decide +kernel, by decide +kernel⟩, List.mem_of_getElem? (i := 972) (by decide +kernel), List.mem_of_getElem? (i := 1168) (by decide +kernel), List.mem_of_getElem? (i := 1169) (by decide +kernel)⟩
theorem lw_p56 : lw_okq (⟨"JustMovesModel", "isSet", "(I)Z"⟩, 47) := ⟨⟨by decide +kernel, by decide +kernel⟩, List.mem_of_getElem? (i := 972) (by decide +kernel), List.mem_of_getElem? (i := 1193) (by decide +kernel), List.mem_of_getElem? (i := 1194) (by decide +kernel)⟩
theorem lw_p57 : lw_okq (⟨"JustMovesModel", "isSounding", "(II)Z"⟩, 47) := ⟨⟨by decide +kernel, by decide +kernel⟩, List.mem_of_getElem? (i := 972) (by decide +kernel), List.mem_of_getElem? (i := 1205) (by decide +kernel), List.mem_of_getElem? (i := 1206) (by decide +kernel)⟩
theorem lw_p58 : lw_okq (⟨"JustMovesModel", "ratioOf", "(III)I"⟩, 47) := ⟨⟨by decide +kernel, by decide +kernel⟩, List.mem_of_getElem? (i := 972) (by decide +kernel), List.mem_of_getElem? (i := 1209) (by decide +kernel), List.mem_of_getElem? (i := 1210) (by decide +kernel)⟩
theorem lw_p59 : lw_okq (⟨"JustMovesModel", "targetOf", "(III)I"⟩, 47) := ⟨⟨by decide +kernel, by decide +kernel⟩, List.mem_of_getElem? (i := 972) (by decide +kernel), List.mem_of_getElem? (i := 1213) (by decide +kernel), List.mem_of_getElem? (i := 1214) (by decide +kernel)⟩
theorem lw_p60 : lw_okq (⟨"JustMovesModel", "octavesOf", "(II)I"⟩, 47) := ⟨⟨by decide +kernel, by decide +kernel⟩, List.mem_of_getElem? (i := 972) (by decide +kernel), List.mem_of_getElem? (i := 1217) (by decide +kernel), List.mem_of_getElem? (i := 1218) (by decide +kernel)⟩
theorem lw_p61 : lw_okq (⟨"JustMovesModel", "power", "(II)I"⟩, 47) := ⟨⟨by decide +kernel, by decide +kernel⟩, List.mem_of_getElem? (i := 972) (by decide +kernel), List.mem_of_getElem? (i := 1221) (by decide +kernel), List.mem_of_getElem? (i := 1222) (by decide +kernel)⟩
theorem lw_p62 : lw_okq (⟨"JustMovesModel", "harshOf", "(II)I"⟩, 47) := ⟨⟨by decide +kernel, by decide +kernel⟩, List.mem_of_getElem? (i := 972) (by decide +kernel), List.mem_of_getElem? (i := 1229) (by decide +kernel), List.mem_of_getElem? (i := 1230) (by decide +kernel)⟩
theorem lw_p63 : lw_okq (⟨"JustMovesModel", "strain", "(III)J"⟩, 47) := ⟨⟨by decide +kernel, by decide +kernel⟩, List.mem_of_getElem? (i := 972) (by decide +kernel), List.mem_of_getElem? (i := 1239) (by decide +kernel), List.mem_of_getElem? (i := 1240) (by decide +kernel)⟩
def lw_privs_4 : List (MethodName × Nat) := [(⟨"JustMovesModel", "put", "(III)V"⟩, 47), (⟨"JustMovesModel", "powerOf", "(II)I"⟩, 47), (⟨"JustMovesModel", "divide", "()V"⟩, 47), (⟨"JustMovesModel", "count", "()V"⟩, 47), (⟨"JustMovesModel", "sounds0", "(II)Z"⟩, 47), (⟨"JustMovesModel", "typeOf", "(II)I"⟩, 47), (⟨"JustMovesModel", "isIn", "(III)Z"⟩, 47), (⟨"JustMovesModel", "isNote", "(I)Z"⟩, 47), (⟨"JustMovesModel", "isSet", "(I)Z"⟩, 47), (⟨"JustMovesModel", "isSounding", "(II)Z"⟩, 47), (⟨"JustMovesModel", "ratioOf", "(III)I"⟩, 47), (⟨"JustMovesModel", "targetOf", "(III)I"⟩, 47), (⟨"JustMovesModel", "octavesOf", "(II)I"⟩, 47), (⟨"JustMovesModel", "power", "(II)I"⟩, 47), (⟨"JustMovesModel", "harshOf", "(II)I"⟩, 47), (⟨"JustMovesModel", "strain", "(III)J"⟩, 47)]
theorem lw_r4 : ∀ q ∈ lw_privs_4, lw_okq q := List.forall_mem_cons.mpr ⟨lw_p48, List.forall_mem_cons.mpr ⟨lw_p49, List.forall_mem_cons.mpr ⟨lw_p50, List.forall_mem_cons.mpr ⟨lw_p51, List.forall_mem_cons.mpr ⟨lw_p52, List.forall_mem_cons.mpr ⟨lw_p53, List.forall_mem_cons.mpr ⟨lw_p54, List.forall_mem_cons.mpr ⟨lw_p55, List.forall_mem_cons.mpr ⟨lw_p56, List.forall_mem_cons.mpr ⟨lw_p57, List.forall_mem_cons.mpr ⟨lw_p58, List.forall_mem_cons.mpr ⟨lw_p59, List.forall_mem_cons.mpr ⟨lw_p60, List.forall_mem_cons.mpr ⟨lw_p61, List.forall_mem_cons.mpr ⟨lw_p62, List.forall_mem_cons.mpr ⟨lw_p63, fun _ h => absurd h List.not_mem_nil⟩⟩⟩⟩⟩⟩⟩⟩⟩⟩⟩⟩⟩⟩⟩⟩
theorem lw_p64 : lw_okq (⟨"JustMovesModel", "build", "()V"⟩, 47) := ⟨⟨by decide +kernel, by decide +kernel⟩, List.mem_of_getElem? (i := 972) (by decide +kernel), List.mem_of_getElem? (i := 1251) (by decide +kernel), List.mem_of_getElem? (i := 1252) (by decide +kernel)⟩
theorem lw_p65 : lw_okq (⟨"JustMovesModel", "addTerm", "(IIJJ)V"⟩, 47) := ⟨⟨by decide +kernel, by decide +kernel⟩, List.mem_of_getElem? (i := 972) (by decide +kernel), List.mem_of_getElem? (i := 1255) (by decide +kernel), List.mem_of_getElem? (i := 1256) (by decide +kernel)⟩
theorem lw_p66 : lw_okq (⟨"JustMovesModel", "nextPrime", "()J"⟩, 47) := ⟨⟨by decide +kernel, by decide +kernel⟩, List.mem_of_getElem? (i := 972) (by decide +kernel), List.mem_of_getElem? (i := 1259) (by decide +kernel), List.mem_of_getElem? (i := 1260) (by decide +kernel)⟩
theorem lw_p67 : lw_okq (⟨"JustMovesModel", "isPrime", "(J)Z"⟩, 47) := ⟨⟨by decide +kernel, by decide +kernel⟩, List.mem_of_getElem? (i := 972) (by decide +kernel), List.mem_of_getElem? (i := 1265) (by decide +kernel), List.mem_of_getElem? (i := 1266) (by decide +kernel)⟩
theorem lw_p68 : lw_okq (⟨"JustMovesModel", "byPrime", "(J)Z"⟩, 47) := ⟨⟨by decide +kernel, by decide +kernel⟩, List.mem_of_getElem? (i := 972) (by decide +kernel), List.mem_of_getElem? (i := 1270) (by decide +kernel), List.mem_of_getElem? (i := 1271) (by decide +kernel)⟩
theorem lw_p69 : lw_okq (⟨"JustMovesModel", "mod", "(JJ)J"⟩, 47) := ⟨⟨by decide +kernel, by decide +kernel⟩, List.mem_of_getElem? (i := 972) (by decide +kernel), List.mem_of_getElem? (i := 1274) (by decide +kernel), List.mem_of_getElem? (i := 1275) (by decide +kernel)⟩
theorem lw_p70 : lw_okq (⟨"JustMovesModel", "inverse", "(JJ)J"⟩, 47) := ⟨⟨by decide +kernel, by decide +kernel⟩, List.mem_of_getElem? (i := 972) (by decide +kernel), List.mem_of_getElem? (i := 1278) (by decide +kernel), List.mem_of_getElem? (i := 1279) (by decide +kernel)⟩
theorem lw_p71 : lw_okq (⟨"JustMovesModel", "fraction", "(I)Z"⟩, 47) := ⟨⟨by decide +kernel, by decide +kernel⟩, List.mem_of_getElem? (i := 972) (by decide +kernel), List.mem_of_getElem? (i := 1294) (by decide +kernel), List.mem_of_getElem? (i := 1295) (by decide +kernel)⟩
theorem lw_p72 : lw_okq (⟨"JustMovesModel", "join", "(II)Z"⟩, 47) := ⟨⟨by decide +kernel, by decide +kernel⟩, List.mem_of_getElem? (i := 972) (by decide +kernel), List.mem_of_getElem? (i := 1298) (by decide +kernel), List.mem_of_getElem? (i := 1299) (by decide +kernel)⟩
theorem lw_p73 : lw_okq (⟨"JustMovesModel", "zero", "(I)V"⟩, 47) := ⟨⟨by decide +kernel, by decide +kernel⟩, List.mem_of_getElem? (i := 972) (by decide +kernel), List.mem_of_getElem? (i := 1302) (by decide +kernel), List.mem_of_getElem? (i := 1303) (by decide +kernel)⟩
theorem lw_p74 : lw_okq (⟨"JustMovesModel", "add", "(IIJ)V"⟩, 47) := ⟨⟨by decide +kernel, by decide +kernel⟩, List.mem_of_getElem? (i := 972) (by decide +kernel), List.mem_of_getElem? (i := 1306) (by decide +kernel), List.mem_of_getElem? (i := 1307) (by decide +kernel)⟩
theorem lw_p75 : lw_okq (⟨"JustMovesModel", "step", "(IJJ)V"⟩, 47) := ⟨⟨by decide +kernel, by decide +kernel⟩, List.mem_of_getElem? (i := 972) (by decide +kernel), List.mem_of_getElem? (i := 1311) (by decide +kernel), List.mem_of_getElem? (i := 1312) (by decide +kernel)⟩
theorem lw_p76 : lw_okq (⟨"JustMovesModel", "copy", "(II)V"⟩, 47) := ⟨⟨by decide +kernel, by decide +kernel⟩, List.mem_of_getElem? (i := 972) (by decide +kernel), List.mem_of_getElem? (i := 1315) (by decide +kernel), List.mem_of_getElem? (i := 1316) (by decide +kernel)⟩
theorem lw_p77 : lw_okq (⟨"JustMovesModel", "compare", "(II)I"⟩, 47) := ⟨⟨by decide +kernel, by decide +kernel⟩, List.mem_of_getElem? (i := 972) (by decide +kernel), List.mem_of_getElem? (i := 1319) (by decide +kernel), List.mem_of_getElem? (i := 1320) (by decide +kernel)⟩
theorem lw_p78 : lw_okq (⟨"JustMovesModel", "less", "(II)V"⟩, 47) := ⟨⟨by decide +kernel, by decide +kernel⟩, List.mem_of_getElem? (i := 972) (by decide +kernel), List.mem_of_getElem? (i := 1323) (by decide +kernel), List.mem_of_getElem? (i := 1324) (by decide +kernel)⟩
theorem lw_p79 : lw_okq (⟨"JustMovesModel", "tell", "(Z)I"⟩, 47) := ⟨⟨by decide +kernel, by decide +kernel⟩, List.mem_of_getElem? (i := 972) (by decide +kernel), List.mem_of_getElem? (i := 1327) (by decide +kernel), List.mem_of_getElem? (i := 1328) (by decide +kernel)⟩
def lw_privs_5 : List (MethodName × Nat) := [(⟨"JustMovesModel", "build", "()V"⟩, 47), (⟨"JustMovesModel", "addTerm", "(IIJJ)V"⟩, 47), (⟨"JustMovesModel", "nextPrime", "()J"⟩, 47), (⟨"JustMovesModel", "isPrime", "(J)Z"⟩, 47), (⟨"JustMovesModel", "byPrime", "(J)Z"⟩, 47), (⟨"JustMovesModel", "mod", "(JJ)J"⟩, 47), (⟨"JustMovesModel", "inverse", "(JJ)J"⟩, 47), (⟨"JustMovesModel", "fraction", "(I)Z"⟩, 47), (⟨"JustMovesModel", "join", "(II)Z"⟩, 47), (⟨"JustMovesModel", "zero", "(I)V"⟩, 47), (⟨"JustMovesModel", "add", "(IIJ)V"⟩, 47), (⟨"JustMovesModel", "step", "(IJJ)V"⟩, 47), (⟨"JustMovesModel", "copy", "(II)V"⟩, 47), (⟨"JustMovesModel", "compare", "(II)I"⟩, 47), (⟨"JustMovesModel", "less", "(II)V"⟩, 47), (⟨"JustMovesModel", "tell", "(Z)I"⟩, 47)]
theorem lw_r5 : ∀ q ∈ lw_privs_5, lw_okq q := List.forall_mem_cons.mpr ⟨lw_p64, List.forall_mem_cons.mpr ⟨lw_p65, List.forall_mem_cons.mpr ⟨lw_p66, List.forall_mem_cons.mpr ⟨lw_p67, List.forall_mem_cons.mpr ⟨lw_p68, List.forall_mem_cons.mpr ⟨lw_p69, List.forall_mem_cons.mpr ⟨lw_p70, List.forall_mem_cons.mpr ⟨lw_p71, List.forall_mem_cons.mpr ⟨lw_p72, List.forall_mem_cons.mpr ⟨lw_p73, List.forall_mem_cons.mpr ⟨lw_p74, List.forall_mem_cons.mpr ⟨lw_p75, List.forall_mem_cons.mpr ⟨lw_p76, List.forall_mem_cons.mpr ⟨lw_p77, List.forall_mem_cons.mpr ⟨lw_p78, List.forall_mem_cons.mpr ⟨lw_p79, fun _ h => absurd h List.not_mem_nil⟩⟩⟩⟩⟩⟩⟩⟩⟩⟩⟩⟩⟩⟩⟩⟩
theorem lw_p80 : lw_okq (⟨"JustMovesModel", "divisor", "(III)V"⟩, 47) := ⟨⟨by decide +kernel, by decide +kernel⟩, List.mem_of_getElem? (i := 972) (by decide +kernel), List.mem_of_getElem? (i := 1331) (by decide +kernel), List.mem_of_getElem? (i := 1332) (by decide +kernel)⟩
theorem lw_p81 : lw_okq (⟨"JustMovesModel", "isZero", "(I)Z"⟩, 47) := ⟨⟨by decide +kernel, by decide +kernel⟩, List.mem_of_getElem? (i := 972) (by decide +kernel), List.mem_of_getElem? (i := 1335) (by decide +kernel), List.mem_of_getElem? (i := 1336) (by decide +kernel)⟩
theorem lw_p82 : lw_okq (⟨"JustMovesModel", "isOdd", "(I)Z"⟩, 47) := ⟨⟨by decide +kernel, by decide +kernel⟩, List.mem_of_getElem? (i := 972) (by decide +kernel), List.mem_of_getElem? (i := 1339) (by decide +kernel), List.mem_of_getElem? (i := 1340) (by decide +kernel)⟩
theorem lw_p83 : lw_okq (⟨"JustMovesModel", "halve", "(I)V"⟩, 47) := ⟨⟨by decide +kernel, by decide +kernel⟩, List.mem_of_getElem? (i := 972) (by decide +kernel), List.mem_of_getElem? (i := 1343) (by decide +kernel), List.mem_of_getElem? (i := 1344) (by decide +kernel)⟩
theorem lw_p84 : lw_okq (⟨"JustMovesModel", "divide", "(III)V"⟩, 47) := ⟨⟨by decide +kernel, by decide +kernel⟩, List.mem_of_getElem? (i := 972) (by decide +kernel), List.mem_of_getElem? (i := 1347) (by decide +kernel), List.mem_of_getElem? (i := 1348) (by decide +kernel)⟩
theorem lw_p85 : lw_okq (⟨"JustMovesModel", "moved", "(IJI)V"⟩, 47) := ⟨⟨by decide +kernel, by decide +kernel⟩, List.mem_of_getElem? (i := 972) (by decide +kernel), List.mem_of_getElem? (i := 1351) (by decide +kernel), List.mem_of_getElem? (i := 1352) (by decide +kernel)⟩
theorem lw_p86 : lw_okq (⟨"JustMovesModel", "write", "(I)V"⟩, 47) := ⟨⟨by decide +kernel, by decide +kernel⟩, List.mem_of_getElem? (i := 972) (by decide +kernel), List.mem_of_getElem? (i := 1355) (by decide +kernel), List.mem_of_getElem? (i := 1356) (by decide +kernel)⟩
theorem lw_p87 : lw_okq (⟨"JustMovesModel", "shifts", "()V"⟩, 47) := ⟨⟨by decide +kernel, by decide +kernel⟩, List.mem_of_getElem? (i := 972) (by decide +kernel), List.mem_of_getElem? (i := 1383) (by decide +kernel), List.mem_of_getElem? (i := 1384) (by decide +kernel)⟩
def lw_privs_6 : List (MethodName × Nat) := [(⟨"JustMovesModel", "divisor", "(III)V"⟩, 47), (⟨"JustMovesModel", "isZero", "(I)Z"⟩, 47), (⟨"JustMovesModel", "isOdd", "(I)Z"⟩, 47), (⟨"JustMovesModel", "halve", "(I)V"⟩, 47), (⟨"JustMovesModel", "divide", "(III)V"⟩, 47), (⟨"JustMovesModel", "moved", "(IJI)V"⟩, 47), (⟨"JustMovesModel", "write", "(I)V"⟩, 47), (⟨"JustMovesModel", "shifts", "()V"⟩, 47)]
theorem lw_r6 : ∀ q ∈ lw_privs_6, lw_okq q := List.forall_mem_cons.mpr ⟨lw_p80, List.forall_mem_cons.mpr ⟨lw_p81, List.forall_mem_cons.mpr ⟨lw_p82, List.forall_mem_cons.mpr ⟨lw_p83, List.forall_mem_cons.mpr ⟨lw_p84, List.forall_mem_cons.mpr ⟨lw_p85, List.forall_mem_cons.mpr ⟨lw_p86, List.forall_mem_cons.mpr ⟨lw_p87, fun _ h => absurd h List.not_mem_nil⟩⟩⟩⟩⟩⟩⟩⟩
def lw_privs : List (MethodName × Nat) := lw_privs_1 ++ (lw_privs_2 ++ (lw_privs_3 ++ (lw_privs_4 ++ (lw_privs_5 ++ (lw_privs_6)))))
def lw_tbl : List Cond := k2_sels lw_privs ++ tables_1
theorem lw_privs_ok : ∀ q ∈ lw_privs, lw_okq q := by
  show ∀ q ∈ lw_privs_1 ++ (lw_privs_2 ++ (lw_privs_3 ++ (lw_privs_4 ++ (lw_privs_5 ++ (lw_privs_6))))), lw_okq q
  exact List.forall_mem_append.mpr ⟨lw_r1, List.forall_mem_append.mpr ⟨lw_r2, List.forall_mem_append.mpr ⟨lw_r3, List.forall_mem_append.mpr ⟨lw_r4, List.forall_mem_append.mpr ⟨lw_r5, lw_r6⟩⟩⟩⟩⟩
end
section
def RX0 : String := "JustMoves$Chains"
def TX0 : u_T := fun k => match k with
  | 0 => ("JustMoves$Chains", "score", "LJustMoves$Score;", true)
  | 1 => ("JustMoves$Chains", "ratios", "LJustMoves$Ratios;", true)
  | 2 => ("JustMoves$Chains", "readings", "LJustMoves$Readings;", true)
  | 3 => ("JustMoves$Chains", "choice", "LJustMoves$Choice;", true)
  | 4 => ("JustMoves$Chains", "shifts", "[I", true)
  | 5 => ("JustMoves$Chains", "starts", "[I", true)
  | 6 => ("JustMoves$Chains", "drifts", "[I", true)
  | 7 => ("JustMoves$Chains", "pumpFirst", "I", false)
  | _ => ("JustMoves$Chains", "pumpSecond", "I", false)
def tyX0 : Nat → FieldType := fun k => match k with
  | 0 => .object "JustMoves$Score"
  | 1 => .object "JustMoves$Ratios"
  | 2 => .object "JustMoves$Readings"
  | 3 => .object "JustMoves$Choice"
  | 4 => .array .int
  | 5 => .array .int
  | 6 => .array .int
  | 7 => .int
  | _ => .int
theorem nmX0 : ∀ a, a < 9 → ∀ b, b < 9 → a ≠ b → (TX0 a).2.1 ≠ (TX0 b).2.1 := by decide +kernel
theorem tyX0_ok : ∀ k, k < 9 → parseFieldDescriptor (TX0 k).2.2.1 = some (tyX0 k) := by decide +kernel
abbrev cX0_init : ByteArray := prog_2_method_1_code
def yX0_init : MethodName := ⟨RX0, "<init>", "(LJustMoves$Score;LJustMoves$Ratios;LJustMoves$Readings;LJustMoves$Choice;)V"⟩
abbrev cX0_make : ByteArray := prog_2_method_2_code
def yX0_make : MethodName := ⟨RX0, "make", "()V"⟩
abbrev cX0_begin : ByteArray := prog_2_method_3_code
def yX0_begin : MethodName := ⟨RX0, "begin", "(I)V"⟩
abbrev cX0_goOn : ByteArray := prog_2_method_4_code
def yX0_goOn : MethodName := ⟨RX0, "goOn", "(II)V"⟩
abbrev cX0_multiply : ByteArray := prog_2_method_5_code
def yX0_multiply : MethodName := ⟨RX0, "multiply", "(IIII)V"⟩
abbrev cX0_driftOf : ByteArray := prog_2_method_6_code
def yX0_driftOf : MethodName := ⟨RX0, "driftOf", "(I)I"⟩
abbrev cX0_findPump : ByteArray := prog_2_method_7_code
def yX0_findPump : MethodName := ⟨RX0, "findPump", "(I)Z"⟩
abbrev cX0_isPump : ByteArray := prog_2_method_8_code
def yX0_isPump : MethodName := ⟨RX0, "isPump", "(II)Z"⟩
abbrev cX0_ofPump : ByteArray := prog_2_method_9_code
def yX0_ofPump : MethodName := ⟨RX0, "ofPump", "(I)I"⟩
def RX1 : String := "JustMoves$Choice"
def TX1 : u_T := fun k => match k with
  | 0 => ("JustMoves$Choice", "score", "LJustMoves$Score;", true)
  | 1 => ("JustMoves$Choice", "readings", "LJustMoves$Readings;", true)
  | 2 => ("JustMoves$Choice", "weights", "[I", true)
  | 3 => ("JustMoves$Choice", "readingOf", "[I", true)
  | 4 => ("JustMoves$Choice", "counts", "[I", true)
  | 5 => ("JustMoves$Choice", "costs", "[J", true)
  | 6 => ("JustMoves$Choice", "costsAhead", "[J", true)
  | 7 => ("JustMoves$Choice", "followers", "[I", true)
  | 8 => ("JustMoves$Choice", "offsets", "[I", true)
  | _ => ("JustMoves$Choice", "offsetsAhead", "[I", true)
def tyX1 : Nat → FieldType := fun k => match k with
  | 0 => .object "JustMoves$Score"
  | 1 => .object "JustMoves$Readings"
  | 2 => .array .int
  | 3 => .array .int
  | 4 => .array .int
  | 5 => .array .long
  | 6 => .array .long
  | 7 => .array .int
  | 8 => .array .int
  | _ => .array .int
theorem nmX1 : ∀ a, a < 10 → ∀ b, b < 10 → a ≠ b → (TX1 a).2.1 ≠ (TX1 b).2.1 := by decide +kernel
theorem tyX1_ok : ∀ k, k < 10 → parseFieldDescriptor (TX1 k).2.2.1 = some (tyX1 k) := by decide +kernel
abbrev cX1_init : ByteArray := prog_3_method_1_code
def yX1_init : MethodName := ⟨RX1, "<init>", "(LJustMoves$Score;LJustMoves$Readings;[I)V"⟩
abbrev cX1_make : ByteArray := prog_3_method_2_code
def yX1_make : MethodName := ⟨RX1, "make", "()J"⟩
abbrev cX1_countReadings : ByteArray := prog_3_method_3_code
def yX1_countReadings : MethodName := ⟨RX1, "countReadings", "()V"⟩
abbrev cX1_weighReadings : ByteArray := prog_3_method_4_code
def yX1_weighReadings : MethodName := ⟨RX1, "weighReadings", "(I)V"⟩
abbrev cX1_joinNext : ByteArray := prog_3_method_5_code
def yX1_joinNext : MethodName := ⟨RX1, "joinNext", "(I)V"⟩
abbrev cX1_fillOffsets : ByteArray := prog_3_method_6_code
def yX1_fillOffsets : MethodName := ⟨RX1, "fillOffsets", "(I[I)V"⟩
abbrev cX1_joinReading : ByteArray := prog_3_method_7_code
def yX1_joinReading : MethodName := ⟨RX1, "joinReading", "(II)V"⟩
abbrev cX1_strain : ByteArray := prog_3_method_8_code
def yX1_strain : MethodName := ⟨RX1, "strain", "(II)J"⟩
abbrev cX1_followLeast : ByteArray := prog_3_method_9_code
def yX1_followLeast : MethodName := ⟨RX1, "followLeast", "()J"⟩
def RX2 : String := "JustMoves$Fraction"
def TX2 : u_T := fun k => match k with
  | 0 => ("JustMoves$Fraction", "above", "LJustMoves$Whole;", true)
  | 1 => ("JustMoves$Fraction", "below", "LJustMoves$Whole;", true)
  | 2 => ("JustMoves$Fraction", "left", "LJustMoves$Whole;", true)
  | _ => ("JustMoves$Fraction", "right", "LJustMoves$Whole;", true)
def tyX2 : Nat → FieldType := fun k => match k with
  | 0 => .object "JustMoves$Whole"
  | 1 => .object "JustMoves$Whole"
  | 2 => .object "JustMoves$Whole"
  | _ => .object "JustMoves$Whole"
theorem nmX2 : ∀ a, a < 4 → ∀ b, b < 4 → a ≠ b → (TX2 a).2.1 ≠ (TX2 b).2.1 := by decide +kernel
theorem tyX2_ok : ∀ k, k < 4 → parseFieldDescriptor (TX2 k).2.2.1 = some (tyX2 k) := by decide +kernel
abbrev cX2_init : ByteArray := prog_4_method_1_code
def yX2_init : MethodName := ⟨RX2, "<init>", "()V"⟩
abbrev cX2_take : ByteArray := prog_4_method_2_code
def yX2_take : MethodName := ⟨RX2, "take", "(LJustMoves$Whole;LJustMoves$Whole;)V"⟩
abbrev cX2_addWhole : ByteArray := prog_4_method_3_code
def yX2_addWhole : MethodName := ⟨RX2, "addWhole", "(I)V"⟩
abbrev cX2_bringToLowestTerms : ByteArray := prog_4_method_4_code
def yX2_bringToLowestTerms : MethodName := ⟨RX2, "bringToLowestTerms", "()V"⟩
abbrev cX2_findOddDivisor : ByteArray := prog_4_method_5_code
def yX2_findOddDivisor : MethodName := ⟨RX2, "findOddDivisor", "()V"⟩
abbrev cX2_rounded : ByteArray := prog_4_method_6_code
def yX2_rounded : MethodName := ⟨RX2, "rounded", "()I"⟩
abbrev cX2_quotientOfSizes : ByteArray := prog_4_method_7_code
def yX2_quotientOfSizes : MethodName := ⟨RX2, "quotientOfSizes", "()I"⟩
def RX3 : String := "JustMoves$Ratios"
def TX3 : u_T := fun k => match k with
  | 0 => ("JustMoves$Ratios", "ups", "[I", true)
  | 1 => ("JustMoves$Ratios", "downs", "[I", true)
  | 2 => ("JustMoves$Ratios", "sizes", "[I", true)
  | 3 => ("JustMoves$Ratios", "powers", "[I", true)
  | _ => ("JustMoves$Ratios", "counts", "[I", true)
def tyX3 : Nat → FieldType := fun k => match k with
  | 0 => .array .int
  | 1 => .array .int
  | 2 => .array .int
  | 3 => .array .int
  | _ => .array .int
theorem nmX3 : ∀ a, a < 5 → ∀ b, b < 5 → a ≠ b → (TX3 a).2.1 ≠ (TX3 b).2.1 := by decide +kernel
theorem tyX3_ok : ∀ k, k < 5 → parseFieldDescriptor (TX3 k).2.2.1 = some (tyX3 k) := by decide +kernel
abbrev cX3_init : ByteArray := prog_5_method_1_code
def yX3_init : MethodName := ⟨RX3, "<init>", "()V"⟩
abbrev cX3_isAllowed : ByteArray := prog_5_method_2_code
def yX3_isAllowed : MethodName := ⟨RX3, "isAllowed", "(II)Z"⟩
abbrev cX3_hasSmallPrimes : ByteArray := prog_5_method_3_code
def yX3_hasSmallPrimes : MethodName := ⟨RX3, "hasSmallPrimes", "(I)Z"⟩
abbrev cX3_shareSmallPrime : ByteArray := prog_5_method_4_code
def yX3_shareSmallPrime : MethodName := ⟨RX3, "shareSmallPrime", "(II)Z"⟩
abbrev cX3_powerIn : ByteArray := prog_5_method_5_code
def yX3_powerIn : MethodName := ⟨RX3, "powerIn", "(II)I"⟩
abbrev cX3_holds : ByteArray := prog_5_method_6_code
def yX3_holds : MethodName := ⟨RX3, "holds", "(III)Z"⟩
abbrev cX3_append : ByteArray := prog_5_method_7_code
def yX3_append : MethodName := ⟨RX3, "append", "(III)I"⟩
abbrev cX3_store : ByteArray := prog_5_method_8_code
def yX3_store : MethodName := ⟨RX3, "store", "(III)V"⟩
abbrev cX3_removeAll : ByteArray := prog_5_method_9_code
def yX3_removeAll : MethodName := ⟨RX3, "removeAll", "(I)I"⟩
abbrev cX3_harshness : ByteArray := prog_5_method_10_code
def yX3_harshness : MethodName := ⟨RX3, "harshness", "(II)I"⟩
def RX4 : String := "JustMoves$Readings"
def TX4 : u_T := fun k => match k with
  | 0 => ("JustMoves$Readings", "score", "LJustMoves$Score;", true)
  | 1 => ("JustMoves$Readings", "ratios", "LJustMoves$Ratios;", true)
  | _ => ("JustMoves$Readings", "slots", "[I", true)
def tyX4 : Nat → FieldType := fun k => match k with
  | 0 => .object "JustMoves$Score"
  | 1 => .object "JustMoves$Ratios"
  | _ => .array .int
theorem nmX4 : ∀ a, a < 3 → ∀ b, b < 3 → a ≠ b → (TX4 a).2.1 ≠ (TX4 b).2.1 := by decide +kernel
theorem tyX4_ok : ∀ k, k < 3 → parseFieldDescriptor (TX4 k).2.2.1 = some (tyX4 k) := by decide +kernel
abbrev cX4_init : ByteArray := prog_6_method_1_code
def yX4_init : MethodName := ⟨RX4, "<init>", "(LJustMoves$Score;LJustMoves$Ratios;)V"⟩
abbrev cX4_has : ByteArray := prog_6_method_2_code
def yX4_has : MethodName := ⟨RX4, "has", "(II)Z"⟩
abbrev cX4_countOf : ByteArray := prog_6_method_3_code
def yX4_countOf : MethodName := ⟨RX4, "countOf", "(I)I"⟩
abbrev cX4_leastCount : ByteArray := prog_6_method_4_code
def yX4_leastCount : MethodName := ⟨RX4, "leastCount", "()I"⟩
abbrev cX4_greatestCount : ByteArray := prog_6_method_5_code
def yX4_greatestCount : MethodName := ⟨RX4, "greatestCount", "()I"⟩
abbrev cX4_stepsAboveBase : ByteArray := prog_6_method_6_code
def yX4_stepsAboveBase : MethodName := ⟨RX4, "stepsAboveBase", "(II)I"⟩
abbrev cX4_typeOf : ByteArray := prog_6_method_7_code
def yX4_typeOf : MethodName := ⟨RX4, "typeOf", "(II)I"⟩
abbrev cX4_octavesOf : ByteArray := prog_6_method_8_code
def yX4_octavesOf : MethodName := ⟨RX4, "octavesOf", "(II)I"⟩
abbrev cX4_open : ByteArray := prog_6_method_9_code
def yX4_open : MethodName := ⟨RX4, "open", "(II)V"⟩
abbrev cX4_targetOf : ByteArray := prog_6_method_10_code
def yX4_targetOf : MethodName := ⟨RX4, "targetOf", "(II)I"⟩
abbrev cX4_deviationOf : ByteArray := prog_6_method_11_code
def yX4_deviationOf : MethodName := ⟨RX4, "deviationOf", "(II)I"⟩
abbrev cX4_harshness : ByteArray := prog_6_method_12_code
def yX4_harshness : MethodName := ⟨RX4, "harshness", "(I)I"⟩
def RX5 : String := "JustMoves$Score"
def TX5 : u_T := fun k => match k with
  | 0 => ("JustMoves$Score", "noteCount", "I", false)
  | 1 => ("JustMoves$Score", "keys", "[I", true)
  | 2 => ("JustMoves$Score", "noteFrom", "[I", true)
  | 3 => ("JustMoves$Score", "noteTo", "[I", true)
  | 4 => ("JustMoves$Score", "bound", "[Z", true)
  | 5 => ("JustMoves$Score", "setCount", "I", false)
  | 6 => ("JustMoves$Score", "setFrom", "[I", true)
  | 7 => ("JustMoves$Score", "setTo", "[I", true)
  | 8 => ("JustMoves$Score", "bases", "[I", true)
  | 9 => ("JustMoves$Score", "sizes", "[I", true)
  | 10 => ("JustMoves$Score", "members", "[I", true)
  | 11 => ("JustMoves$Score", "variableCount", "I", false)
  | 12 => ("JustMoves$Score", "variables", "[I", true)
  | 13 => ("JustMoves$Score", "commonCount", "I", false)
  | _ => ("JustMoves$Score", "common", "[I", true)
def tyX5 : Nat → FieldType := fun k => match k with
  | 0 => .int
  | 1 => .array .int
  | 2 => .array .int
  | 3 => .array .int
  | 4 => .array .boolean
  | 5 => .int
  | 6 => .array .int
  | 7 => .array .int
  | 8 => .array .int
  | 9 => .array .int
  | 10 => .array .int
  | 11 => .int
  | 12 => .array .int
  | 13 => .int
  | _ => .array .int
theorem nmX5 : ∀ a, a < 15 → ∀ b, b < 15 → a ≠ b → (TX5 a).2.1 ≠ (TX5 b).2.1 := by decide +kernel
theorem tyX5_ok : ∀ k, k < 15 → parseFieldDescriptor (TX5 k).2.2.1 = some (tyX5 k) := by decide +kernel
abbrev cX5_init : ByteArray := prog_7_method_1_code
def yX5_init : MethodName := ⟨RX5, "<init>", "()V"⟩
abbrev cX5_hasNote : ByteArray := prog_7_method_2_code
def yX5_hasNote : MethodName := ⟨RX5, "hasNote", "(I)Z"⟩
abbrev cX5_hasSet : ByteArray := prog_7_method_3_code
def yX5_hasSet : MethodName := ⟨RX5, "hasSet", "(I)Z"⟩
abbrev cX5_isPart : ByteArray := prog_7_method_4_code
def yX5_isPart : MethodName := ⟨RX5, "isPart", "(II)Z"⟩
abbrev cX5_isIn : ByteArray := prog_7_method_5_code
def yX5_isIn : MethodName := ⟨RX5, "isIn", "(II)Z"⟩
abbrev cX5_isAt : ByteArray := prog_7_method_6_code
def yX5_isAt : MethodName := ⟨RX5, "isAt", "(II)Z"⟩
abbrev cX5_equalOf : ByteArray := prog_7_method_7_code
def yX5_equalOf : MethodName := ⟨RX5, "equalOf", "(I)I"⟩
abbrev cX5_baseKey : ByteArray := prog_7_method_8_code
def yX5_baseKey : MethodName := ⟨RX5, "baseKey", "(I)I"⟩
abbrev cX5_variableOf : ByteArray := prog_7_method_9_code
def yX5_variableOf : MethodName := ⟨RX5, "variableOf", "(II)I"⟩
abbrev cX5_isFullFor : ByteArray := prog_7_method_10_code
def yX5_isFullFor : MethodName := ⟨RX5, "isFullFor", "(II)Z"⟩
abbrev cX5_soundingAt : ByteArray := prog_7_method_11_code
def yX5_soundingAt : MethodName := ⟨RX5, "soundingAt", "(I)I"⟩
abbrev cX5_append : ByteArray := prog_7_method_12_code
def yX5_append : MethodName := ⟨RX5, "append", "(III)I"⟩
abbrev cX5_removeAll : ByteArray := prog_7_method_13_code
def yX5_removeAll : MethodName := ⟨RX5, "removeAll", "()I"⟩
abbrev cX5_tie : ByteArray := prog_7_method_14_code
def yX5_tie : MethodName := ⟨RX5, "tie", "(IZ)Z"⟩
abbrev cX5_findSets : ByteArray := prog_7_method_15_code
def yX5_findSets : MethodName := ⟨RX5, "findSets", "()V"⟩
abbrev cX5_tickAfter : ByteArray := prog_7_method_16_code
def yX5_tickAfter : MethodName := ⟨RX5, "tickAfter", "(I)I"⟩
abbrev cX5_appendSet : ByteArray := prog_7_method_17_code
def yX5_appendSet : MethodName := ⟨RX5, "appendSet", "(II)V"⟩
abbrev cX5_numberVariables : ByteArray := prog_7_method_18_code
def yX5_numberVariables : MethodName := ⟨RX5, "numberVariables", "()V"⟩
abbrev cX5_findCommon : ByteArray := prog_7_method_19_code
def yX5_findCommon : MethodName := ⟨RX5, "findCommon", "(I)V"⟩
def RX6 : String := "JustMoves$Solver"
def TX6 : u_T := fun k => match k with
  | 0 => ("JustMoves$Solver", "squares", "LJustMoves$Squares;", true)
  | 1 => ("JustMoves$Solver", "values", "[LJustMoves$Whole;", true)
  | 2 => ("JustMoves$Solver", "work", "[[J", true)
  | 3 => ("JustMoves$Solver", "remainders", "[[J", true)
  | 4 => ("JustMoves$Solver", "moduli", "[J", true)
  | 5 => ("JustMoves$Solver", "inverses", "[J", true)
  | 6 => ("JustMoves$Solver", "digits", "[J", true)
  | _ => ("JustMoves$Solver", "used", "I", false)
def tyX6 : Nat → FieldType := fun k => match k with
  | 0 => .object "JustMoves$Squares"
  | 1 => .array (.object "JustMoves$Whole")
  | 2 => .array (.array .long)
  | 3 => .array (.array .long)
  | 4 => .array .long
  | 5 => .array .long
  | 6 => .array .long
  | _ => .int
theorem nmX6 : ∀ a, a < 8 → ∀ b, b < 8 → a ≠ b → (TX6 a).2.1 ≠ (TX6 b).2.1 := by decide +kernel
theorem tyX6_ok : ∀ k, k < 8 → parseFieldDescriptor (TX6 k).2.2.1 = some (tyX6 k) := by decide +kernel
abbrev cX6_init : ByteArray := prog_8_method_1_code
def yX6_init : MethodName := ⟨RX6, "<init>", "(LJustMoves$Squares;)V"⟩
abbrev cX6_run : ByteArray := prog_8_method_2_code
def yX6_run : MethodName := ⟨RX6, "run", "()V"⟩
abbrev cX6_useModulus : ByteArray := prog_8_method_3_code
def yX6_useModulus : MethodName := ⟨RX6, "useModulus", "(J)V"⟩
abbrev cX6_solveBy : ByteArray := prog_8_method_4_code
def yX6_solveBy : MethodName := ⟨RX6, "solveBy", "(J[J)Z"⟩
abbrev cX6_load : ByteArray := prog_8_method_5_code
def yX6_load : MethodName := ⟨RX6, "load", "(J)V"⟩
abbrev cX6_eliminate : ByteArray := prog_8_method_6_code
def yX6_eliminate : MethodName := ⟨RX6, "eliminate", "(J)J"⟩
abbrev cX6_findRow : ByteArray := prog_8_method_7_code
def yX6_findRow : MethodName := ⟨RX6, "findRow", "(I)I"⟩
abbrev cX6_swapRows : ByteArray := prog_8_method_8_code
def yX6_swapRows : MethodName := ⟨RX6, "swapRows", "(II)V"⟩
abbrev cX6_subtractRow : ByteArray := prog_8_method_9_code
def yX6_subtractRow : MethodName := ⟨RX6, "subtractRow", "(IIJ)V"⟩
abbrev cX6_inverse : ByteArray := prog_8_method_10_code
def yX6_inverse : MethodName := ⟨RX6, "inverse", "(JJ)J"⟩
abbrev cX6_putTogether : ByteArray := prog_8_method_11_code
def yX6_putTogether : MethodName := ⟨RX6, "putTogether", "(I)V"⟩
abbrev cX6_findDigits : ByteArray := prog_8_method_12_code
def yX6_findDigits : MethodName := ⟨RX6, "findDigits", "(II)V"⟩
def RX7 : String := "JustMoves$Squares"
def TX7 : u_T := fun k => match k with
  | 0 => ("JustMoves$Squares", "score", "LJustMoves$Score;", true)
  | 1 => ("JustMoves$Squares", "readings", "LJustMoves$Readings;", true)
  | 2 => ("JustMoves$Squares", "choice", "LJustMoves$Choice;", true)
  | 3 => ("JustMoves$Squares", "weights", "[I", true)
  | 4 => ("JustMoves$Squares", "size", "I", false)
  | 5 => ("JustMoves$Squares", "looseCount", "I", false)
  | 6 => ("JustMoves$Squares", "unmoved", "J", false)
  | 7 => ("JustMoves$Squares", "matrix", "[[J", true)
  | 8 => ("JustMoves$Squares", "right", "[J", true)
  | _ => ("JustMoves$Squares", "lasts", "[I", true)
def tyX7 : Nat → FieldType := fun k => match k with
  | 0 => .object "JustMoves$Score"
  | 1 => .object "JustMoves$Readings"
  | 2 => .object "JustMoves$Choice"
  | 3 => .array .int
  | 4 => .int
  | 5 => .int
  | 6 => .long
  | 7 => .array (.array .long)
  | 8 => .array .long
  | _ => .array .int
theorem nmX7 : ∀ a, a < 10 → ∀ b, b < 10 → a ≠ b → (TX7 a).2.1 ≠ (TX7 b).2.1 := by decide +kernel
theorem tyX7_ok : ∀ k, k < 10 → parseFieldDescriptor (TX7 k).2.2.1 = some (tyX7 k) := by decide +kernel
abbrev cX7_init : ByteArray := prog_9_method_1_code
def yX7_init : MethodName := ⟨RX7, "<init>", "(LJustMoves$Score;LJustMoves$Readings;LJustMoves$Choice;[I)V"⟩
abbrev cX7_gather : ByteArray := prog_9_method_2_code
def yX7_gather : MethodName := ⟨RX7, "gather", "()V"⟩
abbrev cX7_reset : ByteArray := prog_9_method_3_code
def yX7_reset : MethodName := ⟨RX7, "reset", "()V"⟩
abbrev cX7_addChord : ByteArray := prog_9_method_4_code
def yX7_addChord : MethodName := ⟨RX7, "addChord", "(I)V"⟩
abbrev cX7_addMoves : ByteArray := prog_9_method_5_code
def yX7_addMoves : MethodName := ⟨RX7, "addMoves", "(I)V"⟩
abbrev cX7_addEquals : ByteArray := prog_9_method_6_code
def yX7_addEquals : MethodName := ⟨RX7, "addEquals", "(I)V"⟩
abbrev cX7_addPair : ByteArray := prog_9_method_7_code
def yX7_addPair : MethodName := ⟨RX7, "addPair", "(IIJJ)V"⟩
abbrev cX7_fixLoose : ByteArray := prog_9_method_8_code
def yX7_fixLoose : MethodName := ⟨RX7, "fixLoose", "()V"⟩
abbrev cX7_findLasts : ByteArray := prog_9_method_9_code
def yX7_findLasts : MethodName := ⟨RX7, "findLasts", "()V"⟩
abbrev cX7_pullLast : ByteArray := prog_9_method_10_code
def yX7_pullLast : MethodName := ⟨RX7, "pullLast", "(I)Z"⟩
abbrev cX7_fix : ByteArray := prog_9_method_11_code
def yX7_fix : MethodName := ⟨RX7, "fix", "(I)V"⟩
def RX8 : String := "JustMoves$Text"
def TX8 : u_T := fun k => match k with
  | 0 => ("JustMoves$Text", "bytes", "[B", true)
  | _ => ("JustMoves$Text", "length", "I", false)
def tyX8 : Nat → FieldType := fun k => match k with
  | 0 => .array .byte
  | _ => .int
theorem nmX8 : ∀ a, a < 2 → ∀ b, b < 2 → a ≠ b → (TX8 a).2.1 ≠ (TX8 b).2.1 := by decide +kernel
theorem tyX8_ok : ∀ k, k < 2 → parseFieldDescriptor (TX8 k).2.2.1 = some (tyX8 k) := by decide +kernel
abbrev cX8_init : ByteArray := prog_10_method_1_code
def yX8_init : MethodName := ⟨RX8, "<init>", "()V"⟩
abbrev cX8_write : ByteArray := prog_10_method_2_code
def yX8_write : MethodName := ⟨RX8, "write", "(LJustMoves$Fraction;)I"⟩
abbrev cX8_append : ByteArray := prog_10_method_3_code
def yX8_append : MethodName := ⟨RX8, "append", "(I)V"⟩
abbrev cX8_appendSize : ByteArray := prog_10_method_4_code
def yX8_appendSize : MethodName := ⟨RX8, "appendSize", "(LJustMoves$Whole;)V"⟩
def RX9 : String := "JustMoves$Whole"
def TX9 : u_T := fun k => match k with
  | 0 => ("JustMoves$Whole", "limbs", "[I", true)
  | _ => ("JustMoves$Whole", "negative", "Z", false)
def tyX9 : Nat → FieldType := fun k => match k with
  | 0 => .array .int
  | _ => .boolean
theorem nmX9 : ∀ a, a < 2 → ∀ b, b < 2 → a ≠ b → (TX9 a).2.1 ≠ (TX9 b).2.1 := by decide +kernel
theorem tyX9_ok : ∀ k, k < 2 → parseFieldDescriptor (TX9 k).2.2.1 = some (tyX9 k) := by decide +kernel
abbrev cX9_init : ByteArray := prog_11_method_1_code
def yX9_init : MethodName := ⟨RX9, "<init>", "()V"⟩
abbrev cX9_become : ByteArray := prog_11_method_2_code
def yX9_become : MethodName := ⟨RX9, "become", "(I)V"⟩
abbrev cX9_copy : ByteArray := prog_11_method_3_code
def yX9_copy : MethodName := ⟨RX9, "copy", "(LJustMoves$Whole;)V"⟩
abbrev cX9_hasSize : ByteArray := prog_11_method_4_code
def yX9_hasSize : MethodName := ⟨RX9, "hasSize", "(I)Z"⟩
abbrev cX9_timesPlus : ByteArray := prog_11_method_5_code
def yX9_timesPlus : MethodName := ⟨RX9, "timesPlus", "(II)V"⟩
abbrev cX9_compareSize : ByteArray := prog_11_method_6_code
def yX9_compareSize : MethodName := ⟨RX9, "compareSize", "(LJustMoves$Whole;)I"⟩
abbrev cX9_add : ByteArray := prog_11_method_7_code
def yX9_add : MethodName := ⟨RX9, "add", "(LJustMoves$Whole;)V"⟩
abbrev cX9_subtractSize : ByteArray := prog_11_method_8_code
def yX9_subtractSize : MethodName := ⟨RX9, "subtractSize", "(LJustMoves$Whole;)V"⟩
abbrev cX9_combine : ByteArray := prog_11_method_9_code
def yX9_combine : MethodName := ⟨RX9, "combine", "(LJustMoves$Whole;LJustMoves$Whole;I)V"⟩
abbrev cX9_twos : ByteArray := prog_11_method_10_code
def yX9_twos : MethodName := ⟨RX9, "twos", "()I"⟩
abbrev cX9_dropBits : ByteArray := prog_11_method_11_code
def yX9_dropBits : MethodName := ⟨RX9, "dropBits", "(I)V"⟩
abbrev cX9_limbAt : ByteArray := prog_11_method_12_code
def yX9_limbAt : MethodName := ⟨RX9, "limbAt", "(I)I"⟩
abbrev cX9_dropDigit : ByteArray := prog_11_method_13_code
def yX9_dropDigit : MethodName := ⟨RX9, "dropDigit", "()I"⟩
abbrev cX9_divideByOdd : ByteArray := prog_11_method_14_code
def yX9_divideByOdd : MethodName := ⟨RX9, "divideByOdd", "(LJustMoves$Whole;)V"⟩
abbrev cX9_inverseOfLowest : ByteArray := prog_11_method_15_code
def yX9_inverseOfLowest : MethodName := ⟨RX9, "inverseOfLowest", "()I"⟩
def RX10 : String := "JustMoves"
def TX10 : u_T := fun k => match k with
  | 0 => ("JustMoves", "weights", "[I", true)
  | 1 => ("JustMoves", "ratios", "LJustMoves$Ratios;", true)
  | 2 => ("JustMoves", "score", "LJustMoves$Score;", true)
  | 3 => ("JustMoves", "readings", "LJustMoves$Readings;", true)
  | 4 => ("JustMoves", "choice", "LJustMoves$Choice;", true)
  | 5 => ("JustMoves", "chains", "LJustMoves$Chains;", true)
  | 6 => ("JustMoves", "squares", "LJustMoves$Squares;", true)
  | 7 => ("JustMoves", "solver", "LJustMoves$Solver;", true)
  | 8 => ("JustMoves", "fraction", "LJustMoves$Fraction;", true)
  | 9 => ("JustMoves", "text", "LJustMoves$Text;", true)
  | 10 => ("JustMoves", "hasChoice", "Z", false)
  | _ => ("JustMoves", "hasPlaces", "Z", false)
def tyX10 : Nat → FieldType := fun k => match k with
  | 0 => .array .int
  | 1 => .object "JustMoves$Ratios"
  | 2 => .object "JustMoves$Score"
  | 3 => .object "JustMoves$Readings"
  | 4 => .object "JustMoves$Choice"
  | 5 => .object "JustMoves$Chains"
  | 6 => .object "JustMoves$Squares"
  | 7 => .object "JustMoves$Solver"
  | 8 => .object "JustMoves$Fraction"
  | 9 => .object "JustMoves$Text"
  | 10 => .boolean
  | _ => .boolean
theorem nmX10 : ∀ a, a < 12 → ∀ b, b < 12 → a ≠ b → (TX10 a).2.1 ≠ (TX10 b).2.1 := by decide +kernel
theorem tyX10_ok : ∀ k, k < 12 → parseFieldDescriptor (TX10 k).2.2.1 = some (tyX10 k) := by decide +kernel
abbrev cX10_init : ByteArray := prog_1_method_1_code
def yX10_init : MethodName := ⟨RX10, "<init>", "()V"⟩
abbrev cX10_note : ByteArray := prog_1_method_2_code
def yX10_note : MethodName := ⟨RX10, "note", "(III)I"⟩
abbrev cX10_clear : ByteArray := prog_1_method_3_code
def yX10_clear : MethodName := ⟨RX10, "clear", "()I"⟩
abbrev cX10_bind : ByteArray := prog_1_method_4_code
def yX10_bind : MethodName := ⟨RX10, "bind", "(IZ)I"⟩
abbrev cX10_ratio : ByteArray := prog_1_method_5_code
def yX10_ratio : MethodName := ⟨RX10, "ratio", "(III)I"⟩
abbrev cX10_empty : ByteArray := prog_1_method_6_code
def yX10_empty : MethodName := ⟨RX10, "empty", "(I)I"⟩
abbrev cX10_weight : ByteArray := prog_1_method_7_code
def yX10_weight : MethodName := ⟨RX10, "weight", "(II)I"⟩
abbrev cX10_sets : ByteArray := prog_1_method_8_code
def yX10_sets : MethodName := ⟨RX10, "sets", "()I"⟩
abbrev cX10_set : ByteArray := prog_1_method_9_code
def yX10_set : MethodName := ⟨RX10, "set", "(II)I"⟩
abbrev cX10_sounds : ByteArray := prog_1_method_10_code
def yX10_sounds : MethodName := ⟨RX10, "sounds", "(II)I"⟩
abbrev cX10_reading : ByteArray := prog_1_method_11_code
def yX10_reading : MethodName := ⟨RX10, "reading", "(IIII)I"⟩
abbrev cX10_harsh : ByteArray := prog_1_method_12_code
def yX10_harsh : MethodName := ⟨RX10, "harsh", "(II)I"⟩
abbrev cX10_choose : ByteArray := prog_1_method_13_code
def yX10_choose : MethodName := ⟨RX10, "choose", "()J"⟩
abbrev cX10_chosen : ByteArray := prog_1_method_14_code
def yX10_chosen : MethodName := ⟨RX10, "chosen", "(I)I"⟩
abbrev cX10_solve : ByteArray := prog_1_method_15_code
def yX10_solve : MethodName := ⟨RX10, "solve", "()I"⟩
abbrev cX10_variable : ByteArray := prog_1_method_16_code
def yX10_variable : MethodName := ⟨RX10, "variable", "(II)I"⟩
abbrev cX10_loose : ByteArray := prog_1_method_17_code
def yX10_loose : MethodName := ⟨RX10, "loose", "()I"⟩
abbrev cX10_place : ByteArray := prog_1_method_18_code
def yX10_place : MethodName := ⟨RX10, "place", "(II)I"⟩
abbrev cX10_move : ByteArray := prog_1_method_19_code
def yX10_move : MethodName := ⟨RX10, "move", "(II)I"⟩
abbrev cX10_energy : ByteArray := prog_1_method_20_code
def yX10_energy : MethodName := ⟨RX10, "energy", "()I"⟩
abbrev cX10_near : ByteArray := prog_1_method_21_code
def yX10_near : MethodName := ⟨RX10, "near", "(II)I"⟩
abbrev cX10_text : ByteArray := prog_1_method_22_code
def yX10_text : MethodName := ⟨RX10, "text", "(I)I"⟩
abbrev cX10_pure : ByteArray := prog_1_method_23_code
def yX10_pure : MethodName := ⟨RX10, "pure", "(II)I"⟩
abbrev cX10_pump : ByteArray := prog_1_method_24_code
def yX10_pump : MethodName := ⟨RX10, "pump", "(II)I"⟩
abbrev cX10_forget : ByteArray := prog_1_method_25_code
def yX10_forget : MethodName := ⟨RX10, "forget", "()V"⟩
abbrev cX10_takeMove : ByteArray := prog_1_method_26_code
def yX10_takeMove : MethodName := ⟨RX10, "takeMove", "(II)I"⟩
def RX11 : String := "JustMovesModel"
def TX11 : u_T := fun k => match k with
  | 0 => ("JustMovesModel", "notes", "I", false)
  | 1 => ("JustMovesModel", "keys", "[I", true)
  | 2 => ("JustMovesModel", "froms", "[I", true)
  | 3 => ("JustMovesModel", "tos", "[I", true)
  | 4 => ("JustMovesModel", "bounds", "[Z", true)
  | 5 => ("JustMovesModel", "listed", "[I", true)
  | 6 => ("JustMovesModel", "ups", "[I", true)
  | 7 => ("JustMovesModel", "downs", "[I", true)
  | 8 => ("JustMovesModel", "powers", "[I", true)
  | 9 => ("JustMovesModel", "primes6", "[I", true)
  | 10 => ("JustMovesModel", "logs", "[I", true)
  | 11 => ("JustMovesModel", "weights", "[I", true)
  | 12 => ("JustMovesModel", "hasChoice", "Z", false)
  | 13 => ("JustMovesModel", "hasPlaces", "Z", false)
  | 14 => ("JustMovesModel", "sets", "I", false)
  | 15 => ("JustMovesModel", "begins", "[I", true)
  | 16 => ("JustMovesModel", "ends", "[I", true)
  | 17 => ("JustMovesModel", "sounding", "[I", true)
  | 18 => ("JustMovesModel", "bases", "[I", true)
  | 19 => ("JustMovesModel", "manies", "[I", true)
  | 20 => ("JustMovesModel", "readings", "[I", true)
  | 21 => ("JustMovesModel", "variables", "I", false)
  | 22 => ("JustMovesModel", "variable", "[I", true)
  | 23 => ("JustMovesModel", "ticks", "[I", true)
  | 24 => ("JustMovesModel", "chosen", "[I", true)
  | 25 => ("JustMovesModel", "least", "[J", true)
  | 26 => ("JustMovesModel", "targets", "[I", true)
  | 27 => ("JustMovesModel", "row", "[J", true)
  | 28 => ("JustMovesModel", "right", "[J", true)
  | 29 => ("JustMovesModel", "equals", "[I", true)
  | 30 => ("JustMovesModel", "hangs", "[I", true)
  | 31 => ("JustMovesModel", "isLoose", "[Z", true)
  | 32 => ("JustMovesModel", "looseMany", "I", false)
  | 33 => ("JustMovesModel", "constant", "J", false)
  | 34 => ("JustMovesModel", "primes", "I", false)
  | 35 => ("JustMovesModel", "prime", "[J", true)
  | 36 => ("JustMovesModel", "good", "I", false)
  | 37 => ("JustMovesModel", "modulus", "[J", true)
  | 38 => ("JustMovesModel", "left", "[J", true)
  | 39 => ("JustMovesModel", "work", "[J", true)
  | 40 => ("JustMovesModel", "limb", "[J", true)
  | 41 => ("JustMovesModel", "digit", "[J", true)
  | 42 => ("JustMovesModel", "bytes", "I", false)
  | 43 => ("JustMovesModel", "text", "[B", true)
  | 44 => ("JustMovesModel", "shift", "[I", true)
  | 45 => ("JustMovesModel", "chain", "[I", true)
  | _ => ("JustMovesModel", "drift", "[I", true)
def tyX11 : Nat → FieldType := fun k => match k with
  | 0 => .int
  | 1 => .array .int
  | 2 => .array .int
  | 3 => .array .int
  | 4 => .array .boolean
  | 5 => .array .int
  | 6 => .array .int
  | 7 => .array .int
  | 8 => .array .int
  | 9 => .array .int
  | 10 => .array .int
  | 11 => .array .int
  | 12 => .boolean
  | 13 => .boolean
  | 14 => .int
  | 15 => .array .int
  | 16 => .array .int
  | 17 => .array .int
  | 18 => .array .int
  | 19 => .array .int
  | 20 => .array .int
  | 21 => .int
  | 22 => .array .int
  | 23 => .array .int
  | 24 => .array .int
  | 25 => .array .long
  | 26 => .array .int
  | 27 => .array .long
  | 28 => .array .long
  | 29 => .array .int
  | 30 => .array .int
  | 31 => .array .boolean
  | 32 => .int
  | 33 => .long
  | 34 => .int
  | 35 => .array .long
  | 36 => .int
  | 37 => .array .long
  | 38 => .array .long
  | 39 => .array .long
  | 40 => .array .long
  | 41 => .array .long
  | 42 => .int
  | 43 => .array .byte
  | 44 => .array .int
  | 45 => .array .int
  | _ => .array .int
theorem nmX11 : ∀ a, a < 47 → ∀ b, b < 47 → a ≠ b → (TX11 a).2.1 ≠ (TX11 b).2.1 := by decide +kernel
theorem tyX11_ok : ∀ k, k < 47 → parseFieldDescriptor (TX11 k).2.2.1 = some (tyX11 k) := by decide +kernel
abbrev cX11_init : ByteArray := prog_13_method_1_code
def yX11_init : MethodName := ⟨RX11, "<init>", "()V"⟩
abbrev cX11_put : ByteArray := prog_13_method_2_code
def yX11_put : MethodName := ⟨RX11, "put", "(III)V"⟩
abbrev cX11_powerOf : ByteArray := prog_13_method_3_code
def yX11_powerOf : MethodName := ⟨RX11, "powerOf", "(II)I"⟩
abbrev cX11_divide : ByteArray := prog_13_method_4_code
def yX11_divide : MethodName := ⟨RX11, "divide", "()V"⟩
abbrev cX11_count : ByteArray := prog_13_method_5_code
def yX11_count : MethodName := ⟨RX11, "count", "()V"⟩
abbrev cX11_sounds0 : ByteArray := prog_13_method_6_code
def yX11_sounds0 : MethodName := ⟨RX11, "sounds0", "(II)Z"⟩
abbrev cX11_typeOf : ByteArray := prog_13_method_7_code
def yX11_typeOf : MethodName := ⟨RX11, "typeOf", "(II)I"⟩
abbrev cX11_octavesOf : ByteArray := prog_13_method_8_code
def yX11_octavesOf : MethodName := ⟨RX11, "octavesOf", "(II)I"⟩
abbrev cX11_ratioOf : ByteArray := prog_13_method_9_code
def yX11_ratioOf : MethodName := ⟨RX11, "ratioOf", "(III)I"⟩
abbrev cX11_power : ByteArray := prog_13_method_10_code
def yX11_power : MethodName := ⟨RX11, "power", "(II)I"⟩
abbrev cX11_targetOf : ByteArray := prog_13_method_11_code
def yX11_targetOf : MethodName := ⟨RX11, "targetOf", "(III)I"⟩
abbrev cX11_harshOf : ByteArray := prog_13_method_12_code
def yX11_harshOf : MethodName := ⟨RX11, "harshOf", "(II)I"⟩
abbrev cX11_isIn : ByteArray := prog_13_method_13_code
def yX11_isIn : MethodName := ⟨RX11, "isIn", "(III)Z"⟩
abbrev cX11_isNote : ByteArray := prog_13_method_14_code
def yX11_isNote : MethodName := ⟨RX11, "isNote", "(I)Z"⟩
abbrev cX11_isSet : ByteArray := prog_13_method_15_code
def yX11_isSet : MethodName := ⟨RX11, "isSet", "(I)Z"⟩
abbrev cX11_isSounding : ByteArray := prog_13_method_16_code
def yX11_isSounding : MethodName := ⟨RX11, "isSounding", "(II)Z"⟩
abbrev cX11_note : ByteArray := prog_13_method_17_code
def yX11_note : MethodName := ⟨RX11, "note", "(III)I"⟩
abbrev cX11_clear : ByteArray := prog_13_method_18_code
def yX11_clear : MethodName := ⟨RX11, "clear", "()I"⟩
abbrev cX11_bind : ByteArray := prog_13_method_19_code
def yX11_bind : MethodName := ⟨RX11, "bind", "(IZ)I"⟩
abbrev cX11_ratio : ByteArray := prog_13_method_20_code
def yX11_ratio : MethodName := ⟨RX11, "ratio", "(III)I"⟩
abbrev cX11_empty : ByteArray := prog_13_method_21_code
def yX11_empty : MethodName := ⟨RX11, "empty", "(I)I"⟩
abbrev cX11_weight : ByteArray := prog_13_method_22_code
def yX11_weight : MethodName := ⟨RX11, "weight", "(II)I"⟩
abbrev cX11_sets : ByteArray := prog_13_method_23_code
def yX11_sets : MethodName := ⟨RX11, "sets", "()I"⟩
abbrev cX11_set : ByteArray := prog_13_method_24_code
def yX11_set : MethodName := ⟨RX11, "set", "(II)I"⟩
abbrev cX11_sounds : ByteArray := prog_13_method_25_code
def yX11_sounds : MethodName := ⟨RX11, "sounds", "(II)I"⟩
abbrev cX11_reading : ByteArray := prog_13_method_26_code
def yX11_reading : MethodName := ⟨RX11, "reading", "(IIII)I"⟩
abbrev cX11_harsh : ByteArray := prog_13_method_27_code
def yX11_harsh : MethodName := ⟨RX11, "harsh", "(II)I"⟩
abbrev cX11_strain : ByteArray := prog_13_method_28_code
def yX11_strain : MethodName := ⟨RX11, "strain", "(III)J"⟩
abbrev cX11_choose : ByteArray := prog_13_method_29_code
def yX11_choose : MethodName := ⟨RX11, "choose", "()J"⟩
abbrev cX11_chosen : ByteArray := prog_13_method_30_code
def yX11_chosen : MethodName := ⟨RX11, "chosen", "(I)I"⟩
abbrev cX11_addTerm : ByteArray := prog_13_method_31_code
def yX11_addTerm : MethodName := ⟨RX11, "addTerm", "(IIJJ)V"⟩
abbrev cX11_build : ByteArray := prog_13_method_32_code
def yX11_build : MethodName := ⟨RX11, "build", "()V"⟩
abbrev cX11_nextPrime : ByteArray := prog_13_method_33_code
def yX11_nextPrime : MethodName := ⟨RX11, "nextPrime", "()J"⟩
abbrev cX11_isPrime : ByteArray := prog_13_method_34_code
def yX11_isPrime : MethodName := ⟨RX11, "isPrime", "(J)Z"⟩
abbrev cX11_mod : ByteArray := prog_13_method_35_code
def yX11_mod : MethodName := ⟨RX11, "mod", "(JJ)J"⟩
abbrev cX11_inverse : ByteArray := prog_13_method_36_code
def yX11_inverse : MethodName := ⟨RX11, "inverse", "(JJ)J"⟩
abbrev cX11_byPrime : ByteArray := prog_13_method_37_code
def yX11_byPrime : MethodName := ⟨RX11, "byPrime", "(J)Z"⟩
abbrev cX11_solve : ByteArray := prog_13_method_38_code
def yX11_solve : MethodName := ⟨RX11, "solve", "()I"⟩
abbrev cX11_variable : ByteArray := prog_13_method_39_code
def yX11_variable : MethodName := ⟨RX11, "variable", "(II)I"⟩
abbrev cX11_loose : ByteArray := prog_13_method_40_code
def yX11_loose : MethodName := ⟨RX11, "loose", "()I"⟩
abbrev cX11_zero : ByteArray := prog_13_method_41_code
def yX11_zero : MethodName := ⟨RX11, "zero", "(I)V"⟩
abbrev cX11_copy : ByteArray := prog_13_method_42_code
def yX11_copy : MethodName := ⟨RX11, "copy", "(II)V"⟩
abbrev cX11_step : ByteArray := prog_13_method_43_code
def yX11_step : MethodName := ⟨RX11, "step", "(IJJ)V"⟩
abbrev cX11_add : ByteArray := prog_13_method_44_code
def yX11_add : MethodName := ⟨RX11, "add", "(IIJ)V"⟩
abbrev cX11_less : ByteArray := prog_13_method_45_code
def yX11_less : MethodName := ⟨RX11, "less", "(II)V"⟩
abbrev cX11_compare : ByteArray := prog_13_method_46_code
def yX11_compare : MethodName := ⟨RX11, "compare", "(II)I"⟩
abbrev cX11_isZero : ByteArray := prog_13_method_47_code
def yX11_isZero : MethodName := ⟨RX11, "isZero", "(I)Z"⟩
abbrev cX11_halve : ByteArray := prog_13_method_48_code
def yX11_halve : MethodName := ⟨RX11, "halve", "(I)V"⟩
abbrev cX11_isOdd : ByteArray := prog_13_method_49_code
def yX11_isOdd : MethodName := ⟨RX11, "isOdd", "(I)Z"⟩
abbrev cX11_divisor : ByteArray := prog_13_method_50_code
def yX11_divisor : MethodName := ⟨RX11, "divisor", "(III)V"⟩
abbrev cX11_divide_ : ByteArray := prog_13_method_51_code
def yX11_divide_ : MethodName := ⟨RX11, "divide", "(III)V"⟩
abbrev cX11_moved : ByteArray := prog_13_method_52_code
def yX11_moved : MethodName := ⟨RX11, "moved", "(IJI)V"⟩
abbrev cX11_join : ByteArray := prog_13_method_53_code
def yX11_join : MethodName := ⟨RX11, "join", "(II)Z"⟩
abbrev cX11_write : ByteArray := prog_13_method_54_code
def yX11_write : MethodName := ⟨RX11, "write", "(I)V"⟩
abbrev cX11_tell : ByteArray := prog_13_method_55_code
def yX11_tell : MethodName := ⟨RX11, "tell", "(Z)I"⟩
abbrev cX11_fraction : ByteArray := prog_13_method_56_code
def yX11_fraction : MethodName := ⟨RX11, "fraction", "(I)Z"⟩
abbrev cX11_place : ByteArray := prog_13_method_57_code
def yX11_place : MethodName := ⟨RX11, "place", "(II)I"⟩
abbrev cX11_move : ByteArray := prog_13_method_58_code
def yX11_move : MethodName := ⟨RX11, "move", "(II)I"⟩
abbrev cX11_energy : ByteArray := prog_13_method_59_code
def yX11_energy : MethodName := ⟨RX11, "energy", "()I"⟩
abbrev cX11_near : ByteArray := prog_13_method_60_code
def yX11_near : MethodName := ⟨RX11, "near", "(II)I"⟩
abbrev cX11_text : ByteArray := prog_13_method_61_code
def yX11_text : MethodName := ⟨RX11, "text", "(I)I"⟩
abbrev cX11_shifts : ByteArray := prog_13_method_62_code
def yX11_shifts : MethodName := ⟨RX11, "shifts", "()V"⟩
abbrev cX11_pure : ByteArray := prog_13_method_63_code
def yX11_pure : MethodName := ⟨RX11, "pure", "(II)I"⟩
abbrev cX11_pump : ByteArray := prog_13_method_64_code
def yX11_pump : MethodName := ⟨RX11, "pump", "(II)I"⟩
def RJ6 : String := "java/lang/Integer"
abbrev cJ6_bitCount_0f7a4 : ByteArray := prog_14_method_49_code
def yJ6_bitCount_0f7a4 : MethodName := ⟨RJ6, "bitCount", "(I)I"⟩
def RJ9 : String := "java/lang/Math"
abbrev cJ9_floorMod_7cf53 : ByteArray := prog_15_method_50_code
def yJ9_floorMod_7cf53 : MethodName := ⟨RJ9, "floorMod", "(II)I"⟩
abbrev cJ9_floorMod_f86c9 : ByteArray := prog_15_method_52_code
def yJ9_floorMod_f86c9 : MethodName := ⟨RJ9, "floorMod", "(JJ)J"⟩
abbrev cJ9_abs_0f7a4 : ByteArray := prog_15_method_59_code
def yJ9_abs_0f7a4 : MethodName := ⟨RJ9, "abs", "(I)I"⟩
abbrev cJ9_max_7cf53 : ByteArray := prog_15_method_65_code
def yJ9_max_7cf53 : MethodName := ⟨RJ9, "max", "(II)I"⟩
abbrev cJ9_min_7cf53 : ByteArray := prog_15_method_69_code
def yJ9_min_7cf53 : MethodName := ⟨RJ9, "min", "(II)I"⟩
def RJ10 : String := "java/lang/System"
def RJ7 : String := "java/util/Arrays"
abbrev cJ7_fill_d0a16 : ByteArray := prog_17_method_101_code
def yJ7_fill_d0a16 : MethodName := ⟨RJ7, "fill", "([JJ)V"⟩
abbrev cJ7_fill_53178 : ByteArray := prog_17_method_103_code
def yJ7_fill_53178 : MethodName := ⟨RJ7, "fill", "([II)V"⟩
def RL : String := "JustMovesLaw"
abbrev cL_law : ByteArray := code
def yL_law : MethodName := ⟨RL, "law", "([I)Z"⟩
abbrev vwCl : List vw_C := [(RX0, TX0, 9), (RX1, TX1, 10), (RX2, TX2, 4), (RX3, TX3, 5), (RX4, TX4, 3), (RX5, TX5, 15), (RX6, TX6, 8), (RX7, TX7, 10), (RX8, TX8, 2), (RX9, TX9, 2), (RX10, TX10, 12), (RX11, TX11, 47)]
def aT (ci : Nat) : Nat → FieldType := match ci with
  | 0 => tyX0
  | 1 => tyX1
  | 2 => tyX2
  | 3 => tyX3
  | 4 => tyX4
  | 5 => tyX5
  | 6 => tyX6
  | 7 => tyX7
  | 8 => tyX8
  | 9 => tyX9
  | 10 => tyX10
  | _ => tyX11
def aNs : List Cond := [(Jvm.Cond.fieldLinkNest "JustMoves$Ratios" (27 : Nat) "JustMoves" "FIRST_UP" "[I" "JustMoves"), (Jvm.Cond.fieldLinkNest "JustMoves$Ratios" (30 : Nat) "JustMoves" "FIRST_DOWN" "[I" "JustMoves"), (Jvm.Cond.fieldLinkNest "JustMoves$Ratios" (49 : Nat) "JustMoves" "PRIMES" "[I" "JustMoves"), (Jvm.Cond.fieldLinkNest "JustMoves$Ratios" (56 : Nat) "JustMoves" "LOGS" "[I" "JustMoves"), (Jvm.Cond.methodLinkNest "JustMoves" (22 : Nat) ({ cls := "JustMoves$Score", name := "<init>", desc := "()V" } : Jvm.MethodName) "JustMoves"), (Jvm.Cond.methodLinkNest "JustMoves" (29 : Nat) ({ cls := "JustMoves$Fraction", name := "<init>", desc := "()V" } : Jvm.MethodName) "JustMoves"), (Jvm.Cond.methodLinkNest "JustMoves$Fraction" (11 : Nat) ({ cls := "JustMoves$Whole", name := "<init>", desc := "()V" } : Jvm.MethodName) "JustMoves"), (Jvm.Cond.methodLinkNest "JustMoves" (36 : Nat) ({ cls := "JustMoves$Text", name := "<init>", desc := "()V" } : Jvm.MethodName) "JustMoves"), (Jvm.Cond.methodLinkNest "JustMoves$Solver" (39 : Nat) ({ cls := "JustMoves$Whole", name := "<init>", desc := "()V" } : Jvm.MethodName) "JustMoves"), (Jvm.Cond.fieldLinkNest "JustMoves$Chains" (96 : Nat) "JustMoves" "LOGS" "[I" "JustMoves"), (Jvm.Cond.fieldLinkNest "JustMoves$Solver" (44 : Nat) "JustMoves" "MODULI" "[I" "JustMoves")]
end
section
/-! THE ABSTRACT MACHINE: cells by numbers (0..7 are the static arrays and the script, the world's cells from 8 on), their shapes (kind, length), ints, longs, references -/
abbrev aH : Type := List (Nat × Nat) × (Nat → Nat → Int32) × (Nat → Nat → Int64) × (Nat → Nat → Option Nat)
/-- a method: its name, code, locals, return type, room -/
abbrev aMd : Type := MethodName × ByteArray × Nat × Option FieldType × Room
abbrev aG : Type := va_G × (Nat → ClassId)
abbrev aE : Type := List (Nat × (Nat → Int32))
abbrev aTys (G : aG) : List (ClassId × FieldType) := [(G.2 0, .int), (G.2 1, .boolean), (G.2 2, .byte), (G.2 3, .long), (G.2 4, .object "JustMoves$Whole"), (G.2 5, .array .long)]
def aV (ad : Nat → Nat) (v : Value) : Value := match v with
  | .ref k => .ref (ad k)
  | w => w
theorem aV_cat (ad : Nat → Nat) (v : Value) : (aV ad v).category = v.category := by cases v <;> rfl
abbrev aTb : List Cond := lw_tbl.filter goodWord
theorem aTb_in {w : Cond} (h : w ∈ lw_tbl) (g : goodWord w = true) : w ∈ aTb := List.mem_filter.mpr ⟨h, g⟩
def aN (ci : Nat) : Nat := ((vwCl[ci]?).map (fun q => q.2.2)).getD 0
def aFv (ad : Nat → Nat) (h : aH) (t : FieldType) (k f : Nat) : Value := match t with
  | .int => .int (h.2.1 k f)
  | .boolean => .int (h.2.1 k f)
  | .long => .long (h.2.2.1 k f)
  | _ => va_rf ((h.2.2.2 k f).map ad)
def aFs (ad : Nat → Nat) (h : aH) (ci k : Nat) : List Value := (List.range (aN ci)).map (fun f => aFv ad h (aT ci f) k f)
def aEnt (G : aG) (ad : Nat → Nat) (h : aH) (k : Nat) (sn : Nat × Nat) : va_E :=
  if sn.1 < 3 then .inl (G.2 sn.1, sn.2, .inl (h.2.1 k))
  else if sn.1 = 3 then .inl (G.2 3, sn.2, .inr (.inl (h.2.2.1 k)))
  else if sn.1 < 10 then .inl (G.2 sn.1, sn.2, .inr (.inr (.inr (.inr (fun i => (h.2.2.2 k i).map ad)))))
  else .inr (sn.1 - 10, aFs ad h (sn.1 - 10) k)
def aWs (G : aG) (ad : Nat → Nat) (h : aH) : va_W := (List.range h.1.length).map (fun k => (ad (k + 8), aEnt G ad h (k + 8) (h.1.getD k (0, 0))))
def aSh (h : aH) (q : Nat) : Option (Nat × Nat) := if q < 8 then none else h.1[q - 8]?
theorem aSh_spec {h : aH} {q : Nat} {sn : Nat × Nat} (hs : aSh h q = some sn) : 8 ≤ q ∧ h.1[q - 8]? = some sn := by
  unfold aSh at hs
  by_cases hq : q < 8
  · rw [if_pos hq] at hs; cases hs
  · rw [if_neg hq] at hs; exact ⟨by omega, hs⟩
theorem aWs_get {G : aG} {ad : Nat → Nat} {h : aH} {q : Nat} {sn : Nat × Nat} (hs : aSh h q = some sn) : (aWs G ad h)[q - 8]? = some (ad q, aEnt G ad h q sn) := by
  obtain ⟨h8, hg⟩ := aSh_spec hs
  have hl := (List.getElem?_eq_some_iff.mp hg).1
  unfold aWs
  rw [List.getElem?_map, List.getElem?_range hl]
  have e : q - 8 + 8 = q := by omega
  have e2 : h.1.getD (q - 8) (0, 0) = sn := by rw [List.getD_eq_getElem?_getD, hg]; rfl
  simp only [Option.map_some, e, e2]
theorem aWs_inv {G : aG} {ad : Nat → Nat} {h : aH} {k : Nat} {x : Nat × va_E} (hx : (aWs G ad h)[k]? = some x) : k < h.1.length ∧ x = (ad (k + 8), aEnt G ad h (k + 8) (h.1.getD k (0, 0))) := by
  unfold aWs at hx
  rw [List.getElem?_map] at hx
  by_cases hl : k < h.1.length
  · rw [List.getElem?_range hl] at hx
    exact ⟨hl, (Option.some.inj hx).symm⟩
  · rw [List.getElem?_eq_none (by rw [List.length_range]; omega)] at hx
    cases hx
/-- one place of the table is written -/
def aU {α : Type} (f : Nat → Nat → α) (k i : Nat) (v : α) : Nat → Nat → α := fun a b => if a = k then (if b = i then v else f a b) else f a b
theorem aU_s {α : Type} {f : Nat → Nat → α} {k i : Nat} {v : α} : aU f k i v k i = v := by simp [aU]
theorem aU_n {α : Type} {f : Nat → Nat → α} {k i a b : Nat} {v : α} (h : ¬ (a = k ∧ b = i)) : aU f k i v a b = f a b := by
  unfold aU
  by_cases h1 : a = k
  · by_cases h2 : b = i
    · exact absurd ⟨h1, h2⟩ h
    · rw [if_pos h1, if_neg h2]
  · rw [if_neg h1]
theorem aU_o {α : Type} {f : Nat → Nat → α} {k i a : Nat} {v : α} (h : a ≠ k) : aU f k i v a = f a := by funext b; exact aU_n (fun q => h q.1)
/-- a whole row is written -/
def aUr {α : Type} (f : Nat → Nat → α) (k : Nat) (g : Nat → α) : Nat → Nat → α := fun a b => if a = k then g b else f a b
theorem aUr_s {α : Type} {f : Nat → Nat → α} {k : Nat} {g : Nat → α} : aUr f k g k = g := by funext b; simp [aUr]
theorem aUr_o {α : Type} {f : Nat → Nat → α} {k a : Nat} {g : Nat → α} (h : a ≠ k) : aUr f k g a = f a := by funext b; simp [aUr, h]
/-- the table with one cell's entry anew -/
theorem aWs_set {G : aG} {ad : Nat → Nat} {h h' : aH} {q : Nat} {sn : Nat × Nat} {e : va_E} (hs : aSh h q = some sn) (h1 : h'.1 = h.1) (he : aEnt G ad h' q sn = e) (ho : ∀ k, k ≠ q → ∀ z, aEnt G ad h' k z = aEnt G ad h k z) : (aWs G ad h).set (q - 8) (ad q, e) = aWs G ad h' := by
  obtain ⟨h8, hg⟩ := aSh_spec hs
  have hl := (List.getElem?_eq_some_iff.mp hg).1
  apply List.ext_getElem?
  intro k
  by_cases hk : k = q - 8
  · subst hk
    have hs' : aSh h' q = some sn := by unfold aSh; rw [h1, if_neg (by omega)]; exact hg
    rw [List.getElem?_set_self (by unfold aWs; rw [List.length_map, List.length_range]; exact hl), aWs_get hs', he]
  · rw [List.getElem?_set_ne (Ne.symm hk)]
    unfold aWs
    rw [h1, List.getElem?_map, List.getElem?_map]
    by_cases hkl : k < h.1.length
    · rw [List.getElem?_range hkl]
      simp only [Option.map_some]
      rw [ho (k + 8) (by omega)]
    · rw [List.getElem?_eq_none (by rw [List.length_range]; omega)]
      rfl
def aSt : List String := ["FIRST_UP", "FIRST_DOWN", "PRIMES", "LOGS", "FIRST_WEIGHTS", "GREATEST_WEIGHTS", "MODULI"]
/-- what a method's start says of the statics, the classes and the words that aren't good ones -/
def aK (G : aG) (E : aE) (ad : Nat → Nat) (A : Nat → Prop) (s : State) : Prop :=
  va_K G.1 vwCl (aTys G) s ∧ (∀ q : Nat, s.heap.size ≤ q → A q) ∧ E.length ≤ 8 ∧ (∀ (i : Nat) (q : Nat × (Nat → Int32)), E[i]? = some q → va_T .int (ad i) q.1 (fun n => .int (q.2 n)) A s s.heap) ∧ (∀ (i : Nat) (nm : String), aSt[i]? = some nm → va_Z "JustMoves" nm "[I" (.ref (ad i)) A s s.heap) ∧ (∀ w ∈ aNs, va_Nw w s) ∧ va_AO "JustMoves$Whole" s ∧ va_Nw (.arrayOver (.array .long)) s
def aR (G : aG) (ad : Nat → Nat) (h : aH) (A : Nat → Prop) (s : State) (H : Heap) (locs : List Loc) : Prop :=
  va_P G.1 vwCl (aWs G ad h) H ∧ va_D A (aWs G ad h) ∧ va_S A s.heap H locs
def aLe (h : aH) (ad : Nat → Nat) (h' : aH) (ad' : Nat → Nat) : Prop := h.1.length ≤ h'.1.length ∧ (∀ k, k < 8 + h.1.length → ad' k = ad k) ∧ (h'.1.length = h.1.length → ad' = ad)
theorem aLe.rf {h h' : aH} {ad : Nat → Nat} (e : h'.1 = h.1) : aLe h ad h' ad := ⟨by rw [e]; exact Nat.le_refl _, fun _ _ => rfl, fun _ => rfl⟩
theorem aLe.tr {h1 h2 h3 : aH} {a1 a2 a3 : Nat → Nat} (x : aLe h1 a1 h2 a2) (y : aLe h2 a2 h3 a3) : aLe h1 a1 h3 a3 := by
  obtain ⟨x1, x2, x3⟩ := x
  obtain ⟨y1, y2, y3⟩ := y
  refine ⟨by omega, fun k hk => (y2 k (by omega)).trans (x2 k hk), fun e => ?_⟩
  rw [y3 (by omega), x3 (by omega)]
def aCtx (md : aMd) (E : aE) (G : aG) (ad : Nat → Nat) (A : Nat → Prop) (p : Program) (s : State) (m : MethodId) (args : Array Value) (meth : Method) (c : Code) : Prop :=
  p.tables.exec = Jvm.exec ∧ c.code = md.2.1 ∧ c.maxLocals = md.2.2.1 ∧ s.vm.findClass md.1.cls = some m.cls ∧ (∀ w ∈ aTb, w.before args s = true) ∧ (md.1.name = "<init>" → meth.name = "<init>") ∧ aK G E ad A s
def aRet (md : aMd) (pc : Nat) (r : Option Value) : Prop := match r with
  | none => decode md.2.1 pc = .ok (.return_, 1) ∧ md.2.2.2.1 = none
  | some (.int x) => decode md.2.1 pc = .ok (.ireturn, 1) ∧ (md.2.2.2.1 = some .int ∨ (md.2.2.2.1 = some .boolean ∧ (x = 0 ∨ x = 1)))
  | some (.long _) => decode md.2.1 pc = .ok (.lreturn, 1) ∧ md.2.2.2.1 = some .long
  | _ => False
def aFin (md : aMd) (G : aG) (A : Nat → Prop) (p : Program) (l : Launch) (e : Env) (s : State) (m : MethodId) (args : Array Value) (below : List Frame) (meth : Method) (c : Code) (h : aH) (ad : Nat → Nat) (Q : Option Value → aH → Prop) (Qm : State → Prop) : Prop :=
  ∀ (ad' : Nat → Nat) (h' : aH) (r : Option Value) (H : Heap) (locs : List Loc) (cells slots pc : Nat) (ls : Array Slot), aLe h ad h' ad' → aR G ad' h' A s H locs → cells ≤ md.2.2.2.2.cells → slots ≤ md.2.2.2.2.slots → Q r h' → aRet md pc r → W p l e md.2.2.2.2 s m args below meth c H locs cells slots Qm (F0 m pc ls (r.toList.map (aV ad')))
theorem aFin.tr {md : aMd} {G : aG} {A : Nat → Prop} {p : Program} {l : Launch} {e : Env} {s : State} {m : MethodId} {args : Array Value} {below : List Frame} {meth : Method} {c : Code} {h h2 : aH} {ad ad2 : Nat → Nat} {Q : Option Value → aH → Prop} {Qm : State → Prop} (F : aFin md G A p l e s m args below meth c h ad Q Qm) (x : aLe h ad h2 ad2) : aFin md G A p l e s m args below meth c h2 ad2 Q Qm :=
  fun ad' h' r H locs cells slots pc ls y => F ad' h' r H locs cells slots pc ls (x.tr y)
def aLv (ad : Nat → Nat) (lv : List (Nat × Value)) : List (Nat × Value) := lv.map (fun q => (q.1, aV ad q.2))
/-- from here the method returns, and Q holds of its answer and of the heap -/
def aX (md : aMd) (E : aE) (h : aH) (pc : Nat) (lv : List (Nat × Value)) (st : List Value) (bc bs : Nat) (Q : Option Value → aH → Prop) : Prop :=
  ∀ (p : Program) (l : Launch) (e : Env) (s : State) (m : MethodId) (args : Array Value) (below : List Frame) (meth : Method) (c : Code) (G : aG) (ad : Nat → Nat) (A : Nat → Prop) (H : Heap) (locs : List Loc) (cells slots : Nat) (ls : Array Slot) (Qm : State → Prop),
    aCtx md E G ad A p s m args meth c → aR G ad h A s H locs → lv_has ls md.2.2.1 (aLv ad lv) → cells + bc ≤ md.2.2.2.2.cells → slots + bs ≤ md.2.2.2.2.slots → aFin md G A p l e s m args below meth c h ad Q Qm →
    W p l e md.2.2.2.2 s m args below meth c H locs cells slots Qm (F0 m pc ls (st.map (aV ad)))
theorem aX_mono {md : aMd} {E : aE} {h : aH} {pc : Nat} {lv : List (Nat × Value)} {st : List Value} {bc bs : Nat} {Q Q' : Option Value → aH → Prop} (k : aX md E h pc lv st bc bs Q) (i : ∀ r h', Q r h' → Q' r h') : aX md E h pc lv st bc bs Q' := by
  intro p l e s m args below meth c G ad A H locs cells slots ls Qm C hR hl h1 h2 F
  exact k p l e s m args below meth c G ad A H locs cells slots ls Qm C hR hl h1 h2 (fun ad' h' r H locs cells slots pc ls y1 y2 y3 y4 y5 y6 => F ad' h' r H locs cells slots pc ls y1 y2 y3 y4 (i r h' y5) y6)
/-- a return -/
theorem aX_ret {md : aMd} {E : aE} {h : aH} {pc : Nat} {lv : List (Nat × Value)} {bc bs : Nat} {Q : Option Value → aH → Prop} {r : Option Value} (hr : aRet md pc r) (hq : Q r h) : aX md E h pc lv r.toList bc bs Q := by
  intro p l e s m args below meth c G ad A H locs cells slots ls Qm C hR hl h1 h2 F
  exact F ad h r H locs cells slots pc ls (aLe.rf rfl) hR (by omega) (by omega) hq hr
end
section
/-! ROWS OF THE ABSTRACT MACHINE: locals, stack, arithmetic, branches -/
def aGet (i : Nat) : List (Nat × Value) → Option Value
  | [] => none
  | q :: t => if q.1 = i then some q.2 else aGet i t
theorem aGet_mem {i : Nat} {v : Value} : ∀ {lv : List (Nat × Value)}, aGet i lv = some v → (i, v) ∈ lv
  | [], h => by cases h
  | q :: t, h => by
    unfold aGet at h
    by_cases e : q.1 = i
    · rw [if_pos e] at h
      cases h
      subst e
      exact List.mem_cons_self
    · rw [if_neg e] at h
      exact List.mem_cons_of_mem _ (aGet_mem h)
theorem aLv_get {ls : Array Slot} {n : Nat} {ad : Nat → Nat} {lv : List (Nat × Value)} {i : Nat} {v : Value} (hl : lv_has ls n (aLv ad lv)) (h : aGet i lv = some v) : ls[i]? = some (.val (aV ad v)) :=
  hl.2.2 (i, aV ad v) (List.mem_map.mpr ⟨(i, v), aGet_mem h, rfl⟩)
/-- a local of one slot is set, in its place -/
def aS1 (i : Nat) (v : Value) : List (Nat × Value) → List (Nat × Value)
  | [] => [(i, v)]
  | q :: t => if q.1 = i then (i, v) :: t.filter (fun q => !(q.1 == i) && !(q.1 + 1 == i && q.2.category == 2)) else if q.1 + 1 = i ∧ q.2.category = 2 then aS1 i v t else q :: aS1 i v t
theorem aS1_mem {i : Nat} {v : Value} : ∀ {lv : List (Nat × Value)} {x : Nat × Value}, x ∈ aS1 i v lv → x = (i, v) ∨ (x ∈ lv ∧ ¬ x.1 = i ∧ ¬ (x.1 + 1 = i ∧ x.2.category = 2))
  | [], x, h => by
    unfold aS1 at h
    exact Or.inl (List.mem_singleton.mp h)
  | q :: t, x, h => by
    unfold aS1 at h
    by_cases e : q.1 = i
    · rw [if_pos e] at h
      rcases List.mem_cons.mp h with h | h
      · exact Or.inl h
      · obtain ⟨h1, h2⟩ := List.mem_filter.mp h
        simp only [Bool.and_eq_true, Bool.not_eq_true', beq_eq_false_iff_ne, ne_eq, Bool.and_eq_false_iff] at h2
        refine Or.inr ⟨List.mem_cons_of_mem _ h1, h2.1, fun z => ?_⟩
        rcases h2.2 with w | w
        · exact w z.1
        · exact w z.2
    · rw [if_neg e] at h
      by_cases e2 : q.1 + 1 = i ∧ q.2.category = 2
      · rw [if_pos e2] at h
        rcases aS1_mem h with h | ⟨h1, h2⟩
        · exact Or.inl h
        · exact Or.inr ⟨List.mem_cons_of_mem _ h1, h2⟩
      · rw [if_neg e2] at h
        rcases List.mem_cons.mp h with h | h
        · subst h
          exact Or.inr ⟨List.mem_cons_self, e, e2⟩
        · rcases aS1_mem h with h | ⟨h1, h2⟩
          · exact Or.inl h
          · exact Or.inr ⟨List.mem_cons_of_mem _ h1, h2⟩
/-- a local of two slots is set, in its place -/
def aS2 (i : Nat) (v : Value) : List (Nat × Value) → List (Nat × Value)
  | [] => [(i, v)]
  | q :: t => if q.1 = i then (i, v) :: t.filter (fun q => !(q.1 == i) && (!(q.1 == i + 1) && !(q.1 + 1 == i && q.2.category == 2))) else if q.1 = i + 1 ∨ (q.1 + 1 = i ∧ q.2.category = 2) then aS2 i v t else q :: aS2 i v t
theorem aS2_mem {i : Nat} {v : Value} : ∀ {lv : List (Nat × Value)} {x : Nat × Value}, x ∈ aS2 i v lv → x = (i, v) ∨ (x ∈ lv ∧ ¬ x.1 = i ∧ ¬ x.1 = i + 1 ∧ ¬ (x.1 + 1 = i ∧ x.2.category = 2))
  | [], x, h => by
    unfold aS2 at h
    exact Or.inl (List.mem_singleton.mp h)
  | q :: t, x, h => by
    unfold aS2 at h
    by_cases e : q.1 = i
    · rw [if_pos e] at h
      rcases List.mem_cons.mp h with h | h
      · exact Or.inl h
      · obtain ⟨h1, h2⟩ := List.mem_filter.mp h
        simp only [Bool.and_eq_true, Bool.not_eq_true', beq_eq_false_iff_ne, ne_eq, Bool.and_eq_false_iff] at h2
        refine Or.inr ⟨List.mem_cons_of_mem _ h1, h2.1, h2.2.1, fun z => ?_⟩
        rcases h2.2.2 with w | w
        · exact w z.1
        · exact w z.2
    · rw [if_neg e] at h
      by_cases e2 : q.1 = i + 1 ∨ (q.1 + 1 = i ∧ q.2.category = 2)
      · rw [if_pos e2] at h
        rcases aS2_mem h with h | ⟨h1, h2⟩
        · exact Or.inl h
        · exact Or.inr ⟨List.mem_cons_of_mem _ h1, h2⟩
      · rw [if_neg e2] at h
        rcases List.mem_cons.mp h with h | h
        · subst h
          exact Or.inr ⟨List.mem_cons_self, e, fun z => e2 (Or.inl z), fun z => e2 (Or.inr z)⟩
        · rcases aS2_mem h with h | ⟨h1, h2⟩
          · exact Or.inl h
          · exact Or.inr ⟨List.mem_cons_of_mem _ h1, h2⟩
theorem aLv_s1 {ls : Array Slot} {n i : Nat} {ad : Nat → Nat} {lv : List (Nat × Value)} {v : Value} (h : lv_has ls n ((i, aV ad v) :: (aLv ad lv).filter (fun q => !(q.1 == i) && !(q.1 + 1 == i && q.2.category == 2)))) : lv_has ls n (aLv ad (aS1 i v lv)) := by
  refine ⟨h.1, h.2.1, fun q hq => h.2.2 q ?_⟩
  obtain ⟨x, hx, rfl⟩ := List.mem_map.mp hq
  rcases aS1_mem hx with rfl | ⟨h1, h2, h3⟩
  · exact List.mem_cons_self
  · refine List.mem_cons_of_mem _ (List.mem_filter.mpr ⟨List.mem_map.mpr ⟨x, h1, rfl⟩, ?_⟩)
    simp only [aV_cat]
    by_cases e : x.1 + 1 = i
    · have : ¬ x.2.category = 2 := fun z => h3 ⟨e, z⟩
      simp [h2, this]
    · simp [h2, e]
theorem aLv_s2 {ls : Array Slot} {n i : Nat} {ad : Nat → Nat} {lv : List (Nat × Value)} {v : Value} (h : lv_has ls n ((i, aV ad v) :: (aLv ad lv).filter (fun q => !(q.1 == i) && (!(q.1 == i + 1) && !(q.1 + 1 == i && q.2.category == 2))))) : lv_has ls n (aLv ad (aS2 i v lv)) := by
  refine ⟨h.1, h.2.1, fun q hq => h.2.2 q ?_⟩
  obtain ⟨x, hx, rfl⟩ := List.mem_map.mp hq
  rcases aS2_mem hx with rfl | ⟨h1, h2, h3, h4⟩
  · exact List.mem_cons_self
  · refine List.mem_cons_of_mem _ (List.mem_filter.mpr ⟨List.mem_map.mpr ⟨x, h1, rfl⟩, ?_⟩)
    simp only [aV_cat]
    by_cases e : x.1 + 1 = i
    · have : ¬ x.2.category = 2 := fun z => h4 ⟨e, z⟩
      simp [h2, h3, this]
    · simp [h2, h3, e]
section AROW
variable {md : aMd} {E : aE} {h : aH} {pc : Nat} {lv : List (Nat × Value)} {st : List Value} {bc bs : Nat} {Q : Option Value → aH → Prop}
/-- fewer locals, in any order -/
theorem aX_lv {lv' : List (Nat × Value)} (ks : List Nat) (hs : lv_pick lv ks = lv') (k : aX md E h pc lv' st bc bs Q) : aX md E h pc lv st bc bs Q := by
  intro p l e s m args below meth c G ad A H locs cells slots ls Qm C hR hl h1 h2 F
  refine k p l e s m args below meth c G ad A H locs cells slots ls Qm C hR ⟨hl.1, hl.2.1, fun q hq => hl.2.2 q ?_⟩ h1 h2 F
  obtain ⟨x, hx, rfl⟩ := List.mem_map.mp hq
  rw [← hs] at hx
  obtain ⟨j, -, hj⟩ := List.mem_filterMap.mp hx
  exact List.mem_map.mpr ⟨x, List.mem_of_getElem? hj, rfl⟩
/-- a value on the stack gets a name -/
theorem aX_topi {x : Int32} (k : ∀ y : Int32, y = x → aX md E h pc lv (.int y :: st) bc bs Q) : aX md E h pc lv (.int x :: st) bc bs Q := k x rfl
theorem aX_topl {x : Int64} (k : ∀ y : Int64, y = x → aX md E h pc lv (.long y :: st) bc bs Q) : aX md E h pc lv (.long x :: st) bc bs Q := k x rfl
theorem aX_heap {h' : aH} (e : h = h') (k : aX md E h' pc lv st bc bs Q) : aX md E h pc lv st bc bs Q := e ▸ k
theorem aX_st {st' : List Value} (e : st = st') (k : aX md E h pc lv st' bc bs Q) : aX md E h pc lv st bc bs Q := e ▸ k
theorem aX_b {bc' bs' : Nat} (e1 : bc' ≤ bc) (e2 : bs' ≤ bs) (k : aX md E h pc lv st bc' bs' Q) : aX md E h pc lv st bc bs Q := by
  intro p l e s m args below meth c G ad A H locs cells slots ls Qm C hR hl h1 h2 F
  exact k p l e s m args below meth c G ad A H locs cells slots ls Qm C hR hl (by omega) (by omega) F
theorem aX_iconst {n : Int} {v : Int32} (hd : decode md.2.1 pc = .ok (.iconst n, 1)) (hv : Int32.ofInt n = v) (k : aX md E h (pc + 1) lv (.int v :: st) bc bs Q) : aX md E h pc lv (st) bc bs Q := by
  intro p l e s m args below meth c G ad A H locs cells slots ls Qm C hR hl h1 h2 F
  exact lv_iconst C.1 C.2.1 hd hv (k p l e s m args below meth c G ad A H locs cells slots ls Qm C hR hl h1 h2 F)
theorem aX_bipush {n : Int} {v : Int32} (hd : decode md.2.1 pc = .ok (.bipush n, 2)) (hv : (Int8.ofInt n).toInt32 = v) (k : aX md E h (pc + 2) lv (.int v :: st) bc bs Q) : aX md E h pc lv (st) bc bs Q := by
  intro p l e s m args below meth c G ad A H locs cells slots ls Qm C hR hl h1 h2 F
  exact lv_bipush C.1 C.2.1 hd hv (k p l e s m args below meth c G ad A H locs cells slots ls Qm C hR hl h1 h2 F)
theorem aX_sipush {n : Int} {v : Int32} (hd : decode md.2.1 pc = .ok (.sipush n, 3)) (hv : (Int16.ofInt n).toInt32 = v) (k : aX md E h (pc + 3) lv (.int v :: st) bc bs Q) : aX md E h pc lv (st) bc bs Q := by
  intro p l e s m args below meth c G ad A H locs cells slots ls Qm C hR hl h1 h2 F
  exact lv_sipush C.1 C.2.1 hd hv (k p l e s m args below meth c G ad A H locs cells slots ls Qm C hR hl h1 h2 F)
theorem aX_lconst {n : Fin 2} {v : Int64} (hd : decode md.2.1 pc = .ok (.lconst n, 1)) (hv : Int64.ofNat (n : Nat) = v) (k : aX md E h (pc + 1) lv (.long v :: st) bc bs Q) : aX md E h pc lv (st) bc bs Q := by
  intro p l e s m args below meth c G ad A H locs cells slots ls Qm C hR hl h1 h2 F
  exact lv_lconst C.1 C.2.1 hd hv (k p l e s m args below meth c G ad A H locs cells slots ls Qm C hR hl h1 h2 F)
theorem aX_iload_n {n : Fin 4} {x : Int32} (hd : decode md.2.1 pc = .ok (.iload_n n, 1)) (hg : aGet n.val lv = some (.int x)) (k : aX md E h (pc + 1) lv (.int x :: st) bc bs Q) : aX md E h pc lv (st) bc bs Q := by
  intro p l e s m args below meth c G ad A H locs cells slots ls Qm C hR hl h1 h2 F
  exact lv_iload_n C.1 C.2.1 hd rfl (aLv_get hl hg) (k p l e s m args below meth c G ad A H locs cells slots ls Qm C hR hl h1 h2 F)
theorem aX_iload {i : Nat} {x : Int32} (hd : decode md.2.1 pc = .ok (.iload i, 2)) (hg : aGet i lv = some (.int x)) (k : aX md E h (pc + 2) lv (.int x :: st) bc bs Q) : aX md E h pc lv (st) bc bs Q := by
  intro p l e s m args below meth c G ad A H locs cells slots ls Qm C hR hl h1 h2 F
  exact lv_iload C.1 C.2.1 hd (aLv_get hl hg) (k p l e s m args below meth c G ad A H locs cells slots ls Qm C hR hl h1 h2 F)
theorem aX_lload_n {n : Fin 4} {x : Int64} (hd : decode md.2.1 pc = .ok (.lload_n n, 1)) (hg : aGet n.val lv = some (.long x)) (k : aX md E h (pc + 1) lv (.long x :: st) bc bs Q) : aX md E h pc lv (st) bc bs Q := by
  intro p l e s m args below meth c G ad A H locs cells slots ls Qm C hR hl h1 h2 F
  exact lv_lload_n C.1 C.2.1 hd rfl (aLv_get hl hg) (k p l e s m args below meth c G ad A H locs cells slots ls Qm C hR hl h1 h2 F)
theorem aX_lload {i : Nat} {x : Int64} (hd : decode md.2.1 pc = .ok (.lload i, 2)) (hg : aGet i lv = some (.long x)) (k : aX md E h (pc + 2) lv (.long x :: st) bc bs Q) : aX md E h pc lv (st) bc bs Q := by
  intro p l e s m args below meth c G ad A H locs cells slots ls Qm C hR hl h1 h2 F
  exact lv_lload C.1 C.2.1 hd (aLv_get hl hg) (k p l e s m args below meth c G ad A H locs cells slots ls Qm C hR hl h1 h2 F)
theorem aX_aload_n {n : Fin 4} {x : Nat} (hd : decode md.2.1 pc = .ok (.aload_n n, 1)) (hg : aGet n.val lv = some (.ref x)) (k : aX md E h (pc + 1) lv (.ref x :: st) bc bs Q) : aX md E h pc lv (st) bc bs Q := by
  intro p l e s m args below meth c G ad A H locs cells slots ls Qm C hR hl h1 h2 F
  exact lv_aload_n C.1 C.2.1 hd rfl (aLv_get hl hg) (k p l e s m args below meth c G ad A H locs cells slots ls Qm C hR hl h1 h2 F)
theorem aX_aload {i : Nat} {x : Nat} (hd : decode md.2.1 pc = .ok (.aload i, 2)) (hg : aGet i lv = some (.ref x)) (k : aX md E h (pc + 2) lv (.ref x :: st) bc bs Q) : aX md E h pc lv (st) bc bs Q := by
  intro p l e s m args below meth c G ad A H locs cells slots ls Qm C hR hl h1 h2 F
  exact lv_aload C.1 C.2.1 hd (aLv_get hl hg) (k p l e s m args below meth c G ad A H locs cells slots ls Qm C hR hl h1 h2 F)
theorem aX_istore_n {n : Fin 4} {x : Int32} {lv' : List (Nat × Value)} (hd : decode md.2.1 pc = .ok (.istore_n n, 1)) (hn : n.val < md.2.2.1) (hs : aS1 n.val (.int x) lv = lv') (k : aX md E h (pc + 1) lv' st bc bs Q) : aX md E h pc lv (.int x :: st) bc bs Q := by
  subst hs
  intro p l e s m args below meth c G ad A H locs cells slots ls Qm C hR hl h1 h2 F
  exact lv_istore_n C.1 C.2.1 hd rfl hl hn rfl (fun ls' hl' => k p l e s m args below meth c G ad A H locs cells slots ls' Qm C hR (aLv_s1 (v := .int x) hl') h1 h2 F)
theorem aX_istore {i : Nat} {x : Int32} {lv' : List (Nat × Value)} (hd : decode md.2.1 pc = .ok (.istore i, 2)) (hn : i < md.2.2.1) (hs : aS1 i (.int x) lv = lv') (k : aX md E h (pc + 2) lv' st bc bs Q) : aX md E h pc lv (.int x :: st) bc bs Q := by
  subst hs
  intro p l e s m args below meth c G ad A H locs cells slots ls Qm C hR hl h1 h2 F
  exact lv_istore C.1 C.2.1 hd hl hn rfl (fun ls' hl' => k p l e s m args below meth c G ad A H locs cells slots ls' Qm C hR (aLv_s1 (v := .int x) hl') h1 h2 F)
theorem aX_lstore_n {n : Fin 4} {x : Int64} {lv' : List (Nat × Value)} (hd : decode md.2.1 pc = .ok (.lstore_n n, 1)) (hn : n.val + 1 < md.2.2.1) (hs : aS2 n.val (.long x) lv = lv') (k : aX md E h (pc + 1) lv' st bc bs Q) : aX md E h pc lv (.long x :: st) bc bs Q := by
  subst hs
  intro p l e s m args below meth c G ad A H locs cells slots ls Qm C hR hl h1 h2 F
  exact lv_lstore_n C.1 C.2.1 hd rfl hl hn rfl (fun ls' hl' => k p l e s m args below meth c G ad A H locs cells slots ls' Qm C hR (aLv_s2 (v := .long x) hl') h1 h2 F)
theorem aX_lstore {i : Nat} {x : Int64} {lv' : List (Nat × Value)} (hd : decode md.2.1 pc = .ok (.lstore i, 2)) (hn : i + 1 < md.2.2.1) (hs : aS2 i (.long x) lv = lv') (k : aX md E h (pc + 2) lv' st bc bs Q) : aX md E h pc lv (.long x :: st) bc bs Q := by
  subst hs
  intro p l e s m args below meth c G ad A H locs cells slots ls Qm C hR hl h1 h2 F
  exact lv_lstore C.1 C.2.1 hd hl hn rfl (fun ls' hl' => k p l e s m args below meth c G ad A H locs cells slots ls' Qm C hR (aLv_s2 (v := .long x) hl') h1 h2 F)
theorem aX_astore_n {n : Fin 4} {x : Nat} {lv' : List (Nat × Value)} (hd : decode md.2.1 pc = .ok (.astore_n n, 1)) (hn : n.val < md.2.2.1) (hs : aS1 n.val (.ref x) lv = lv') (k : aX md E h (pc + 1) lv' st bc bs Q) : aX md E h pc lv (.ref x :: st) bc bs Q := by
  subst hs
  intro p l e s m args below meth c G ad A H locs cells slots ls Qm C hR hl h1 h2 F
  exact lv_astore_n C.1 C.2.1 hd rfl hl hn rfl (fun ls' hl' => k p l e s m args below meth c G ad A H locs cells slots ls' Qm C hR (aLv_s1 (v := .ref x) hl') h1 h2 F)
theorem aX_astore {i : Nat} {x : Nat} {lv' : List (Nat × Value)} (hd : decode md.2.1 pc = .ok (.astore i, 2)) (hn : i < md.2.2.1) (hs : aS1 i (.ref x) lv = lv') (k : aX md E h (pc + 2) lv' st bc bs Q) : aX md E h pc lv (.ref x :: st) bc bs Q := by
  subst hs
  intro p l e s m args below meth c G ad A H locs cells slots ls Qm C hR hl h1 h2 F
  exact lv_astore C.1 C.2.1 hd hl hn rfl (fun ls' hl' => k p l e s m args below meth c G ad A H locs cells slots ls' Qm C hR (aLv_s1 (v := .ref x) hl') h1 h2 F)
theorem aLv_pos {lv : List (Nat × Value)} {i : Nat} {v : Value} {ad : Nat → Nat} (h : aGet i lv = some v) : ∃ k : Nat, (aLv ad lv)[k]? = some (i, aV ad v) :=
  List.getElem?_of_mem (List.mem_map.mpr ⟨(i, v), aGet_mem h, rfl⟩)
theorem aX_iinc {i : Nat} {n : Int} {x v : Int32} {lv' : List (Nat × Value)} (hd : decode md.2.1 pc = .ok (.iinc i n, 3)) (hg : aGet i lv = some (.int x)) (hv : x + Int32.ofInt n = v) (hn : i < md.2.2.1) (hs : aS1 i (.int v) lv = lv') (k : aX md E h (pc + 3) lv' st bc bs Q) : aX md E h pc lv st bc bs Q := by
  subst hs
  intro p l e s m args below meth c G ad A H locs cells slots ls Qm C hR hl h1 h2 F
  obtain ⟨j, hj⟩ := aLv_pos (ad := ad) hg
  exact lv_iinc C.1 C.2.1 hd hl hj hv hn rfl (fun ls' hl' => k p l e s m args below meth c G ad A H locs cells slots ls' Qm C hR (aLv_s1 (v := .int v) hl') h1 h2 F)
theorem aX_iadd {x y : Int32} (hd : decode md.2.1 pc = .ok (.iadd, 1)) (k : aX md E h (pc + 1) lv (.int (x + y) :: st) bc bs Q) : aX md E h pc lv (.int y :: .int x :: st) bc bs Q := by
  intro p l e s m args below meth c G ad A H locs cells slots ls Qm C hR hl h1 h2 F
  exact lv_iadd C.1 C.2.1 hd (k p l e s m args below meth c G ad A H locs cells slots ls Qm C hR hl h1 h2 F)
theorem aX_isub {x y : Int32} (hd : decode md.2.1 pc = .ok (.isub, 1)) (k : aX md E h (pc + 1) lv (.int (x - y) :: st) bc bs Q) : aX md E h pc lv (.int y :: .int x :: st) bc bs Q := by
  intro p l e s m args below meth c G ad A H locs cells slots ls Qm C hR hl h1 h2 F
  exact lv_isub C.1 C.2.1 hd (k p l e s m args below meth c G ad A H locs cells slots ls Qm C hR hl h1 h2 F)
theorem aX_imul {x y : Int32} (hd : decode md.2.1 pc = .ok (.imul, 1)) (k : aX md E h (pc + 1) lv (.int (x * y) :: st) bc bs Q) : aX md E h pc lv (.int y :: .int x :: st) bc bs Q := by
  intro p l e s m args below meth c G ad A H locs cells slots ls Qm C hR hl h1 h2 F
  exact lv_imul C.1 C.2.1 hd (k p l e s m args below meth c G ad A H locs cells slots ls Qm C hR hl h1 h2 F)
theorem aX_iand {x y : Int32} (hd : decode md.2.1 pc = .ok (.iand, 1)) (k : aX md E h (pc + 1) lv (.int (x &&& y) :: st) bc bs Q) : aX md E h pc lv (.int y :: .int x :: st) bc bs Q := by
  intro p l e s m args below meth c G ad A H locs cells slots ls Qm C hR hl h1 h2 F
  exact lv_iand C.1 C.2.1 hd (k p l e s m args below meth c G ad A H locs cells slots ls Qm C hR hl h1 h2 F)
theorem aX_ior {x y : Int32} (hd : decode md.2.1 pc = .ok (.ior, 1)) (k : aX md E h (pc + 1) lv (.int (x ||| y) :: st) bc bs Q) : aX md E h pc lv (.int y :: .int x :: st) bc bs Q := by
  intro p l e s m args below meth c G ad A H locs cells slots ls Qm C hR hl h1 h2 F
  exact lv_ior C.1 C.2.1 hd (k p l e s m args below meth c G ad A H locs cells slots ls Qm C hR hl h1 h2 F)
theorem aX_ixor {x y : Int32} (hd : decode md.2.1 pc = .ok (.ixor, 1)) (k : aX md E h (pc + 1) lv (.int (x ^^^ y) :: st) bc bs Q) : aX md E h pc lv (.int y :: .int x :: st) bc bs Q := by
  intro p l e s m args below meth c G ad A H locs cells slots ls Qm C hR hl h1 h2 F
  exact lv_ixor C.1 C.2.1 hd (k p l e s m args below meth c G ad A H locs cells slots ls Qm C hR hl h1 h2 F)
theorem aX_ishl {x y : Int32} (hd : decode md.2.1 pc = .ok (.ishl, 1)) (k : aX md E h (pc + 1) lv (.int (x <<< (y &&& 31)) :: st) bc bs Q) : aX md E h pc lv (.int y :: .int x :: st) bc bs Q := by
  intro p l e s m args below meth c G ad A H locs cells slots ls Qm C hR hl h1 h2 F
  exact lv_ishl C.1 C.2.1 hd (k p l e s m args below meth c G ad A H locs cells slots ls Qm C hR hl h1 h2 F)
theorem aX_ishr {x y : Int32} (hd : decode md.2.1 pc = .ok (.ishr, 1)) (k : aX md E h (pc + 1) lv (.int (x >>> (y &&& 31)) :: st) bc bs Q) : aX md E h pc lv (.int y :: .int x :: st) bc bs Q := by
  intro p l e s m args below meth c G ad A H locs cells slots ls Qm C hR hl h1 h2 F
  exact lv_ishr C.1 C.2.1 hd (k p l e s m args below meth c G ad A H locs cells slots ls Qm C hR hl h1 h2 F)
theorem aX_idiv {x y : Int32} (hd : decode md.2.1 pc = .ok (.idiv, 1)) (hne : ¬ y = 0) (k : aX md E h (pc + 1) lv (.int (x / y) :: st) bc bs Q) : aX md E h pc lv (.int y :: .int x :: st) bc bs Q := by
  intro p l e s m args below meth c G ad A H locs cells slots ls Qm C hR hl h1 h2 F
  exact lv_idiv C.1 C.2.1 hd hne (k p l e s m args below meth c G ad A H locs cells slots ls Qm C hR hl h1 h2 F)
theorem aX_irem {x y : Int32} (hd : decode md.2.1 pc = .ok (.irem, 1)) (hne : ¬ y = 0) (k : aX md E h (pc + 1) lv (.int (x - x / y * y) :: st) bc bs Q) : aX md E h pc lv (.int y :: .int x :: st) bc bs Q := by
  intro p l e s m args below meth c G ad A H locs cells slots ls Qm C hR hl h1 h2 F
  exact lv_irem C.1 C.2.1 hd hne (k p l e s m args below meth c G ad A H locs cells slots ls Qm C hR hl h1 h2 F)
theorem aX_ineg {x : Int32} (hd : decode md.2.1 pc = .ok (.ineg, 1)) (k : aX md E h (pc + 1) lv (.int (-x) :: st) bc bs Q) : aX md E h pc lv (.int x :: st) bc bs Q := by
  intro p l e s m args below meth c G ad A H locs cells slots ls Qm C hR hl h1 h2 F
  exact lv_ineg C.1 C.2.1 hd (k p l e s m args below meth c G ad A H locs cells slots ls Qm C hR hl h1 h2 F)
theorem aX_ladd {x y : Int64} (hd : decode md.2.1 pc = .ok (.ladd, 1)) (k : aX md E h (pc + 1) lv (.long (x + y) :: st) bc bs Q) : aX md E h pc lv (.long y :: .long x :: st) bc bs Q := by
  intro p l e s m args below meth c G ad A H locs cells slots ls Qm C hR hl h1 h2 F
  exact lv_ladd C.1 C.2.1 hd (k p l e s m args below meth c G ad A H locs cells slots ls Qm C hR hl h1 h2 F)
theorem aX_lsub {x y : Int64} (hd : decode md.2.1 pc = .ok (.lsub, 1)) (k : aX md E h (pc + 1) lv (.long (x - y) :: st) bc bs Q) : aX md E h pc lv (.long y :: .long x :: st) bc bs Q := by
  intro p l e s m args below meth c G ad A H locs cells slots ls Qm C hR hl h1 h2 F
  exact lv_lsub C.1 C.2.1 hd (k p l e s m args below meth c G ad A H locs cells slots ls Qm C hR hl h1 h2 F)
theorem aX_lmul {x y : Int64} (hd : decode md.2.1 pc = .ok (.lmul, 1)) (k : aX md E h (pc + 1) lv (.long (x * y) :: st) bc bs Q) : aX md E h pc lv (.long y :: .long x :: st) bc bs Q := by
  intro p l e s m args below meth c G ad A H locs cells slots ls Qm C hR hl h1 h2 F
  exact lv_lmul C.1 C.2.1 hd (k p l e s m args below meth c G ad A H locs cells slots ls Qm C hR hl h1 h2 F)
theorem aX_land {x y : Int64} (hd : decode md.2.1 pc = .ok (.land, 1)) (k : aX md E h (pc + 1) lv (.long (x &&& y) :: st) bc bs Q) : aX md E h pc lv (.long y :: .long x :: st) bc bs Q := by
  intro p l e s m args below meth c G ad A H locs cells slots ls Qm C hR hl h1 h2 F
  exact lv_land C.1 C.2.1 hd (k p l e s m args below meth c G ad A H locs cells slots ls Qm C hR hl h1 h2 F)
theorem aX_lor {x y : Int64} (hd : decode md.2.1 pc = .ok (.lor, 1)) (k : aX md E h (pc + 1) lv (.long (x ||| y) :: st) bc bs Q) : aX md E h pc lv (.long y :: .long x :: st) bc bs Q := by
  intro p l e s m args below meth c G ad A H locs cells slots ls Qm C hR hl h1 h2 F
  exact lv_lor C.1 C.2.1 hd (k p l e s m args below meth c G ad A H locs cells slots ls Qm C hR hl h1 h2 F)
theorem aX_lxor {x y : Int64} (hd : decode md.2.1 pc = .ok (.lxor, 1)) (k : aX md E h (pc + 1) lv (.long (x ^^^ y) :: st) bc bs Q) : aX md E h pc lv (.long y :: .long x :: st) bc bs Q := by
  intro p l e s m args below meth c G ad A H locs cells slots ls Qm C hR hl h1 h2 F
  exact lv_lxor C.1 C.2.1 hd (k p l e s m args below meth c G ad A H locs cells slots ls Qm C hR hl h1 h2 F)
theorem aX_ldiv {x y : Int64} (hd : decode md.2.1 pc = .ok (.ldiv, 1)) (hne : ¬ y = 0) (k : aX md E h (pc + 1) lv (.long (x / y) :: st) bc bs Q) : aX md E h pc lv (.long y :: .long x :: st) bc bs Q := by
  intro p l e s m args below meth c G ad A H locs cells slots ls Qm C hR hl h1 h2 F
  exact lv_ldiv C.1 C.2.1 hd hne (k p l e s m args below meth c G ad A H locs cells slots ls Qm C hR hl h1 h2 F)
theorem aX_lrem {x y : Int64} (hd : decode md.2.1 pc = .ok (.lrem, 1)) (hne : ¬ y = 0) (k : aX md E h (pc + 1) lv (.long (x - x / y * y) :: st) bc bs Q) : aX md E h pc lv (.long y :: .long x :: st) bc bs Q := by
  intro p l e s m args below meth c G ad A H locs cells slots ls Qm C hR hl h1 h2 F
  exact lv_lrem C.1 C.2.1 hd hne (k p l e s m args below meth c G ad A H locs cells slots ls Qm C hR hl h1 h2 F)
theorem aX_i2l {x : Int32} (hd : decode md.2.1 pc = .ok (.i2l, 1)) (k : aX md E h (pc + 1) lv (.long x.toInt64 :: st) bc bs Q) : aX md E h pc lv (.int x :: st) bc bs Q := by
  intro p l e s m args below meth c G ad A H locs cells slots ls Qm C hR hl h1 h2 F
  exact lv_i2l C.1 C.2.1 hd rfl (k p l e s m args below meth c G ad A H locs cells slots ls Qm C hR hl h1 h2 F)
theorem aX_l2i {x : Int64} (hd : decode md.2.1 pc = .ok (.l2i, 1)) (k : aX md E h (pc + 1) lv (.int x.toInt32 :: st) bc bs Q) : aX md E h pc lv (.long x :: st) bc bs Q := by
  intro p l e s m args below meth c G ad A H locs cells slots ls Qm C hR hl h1 h2 F
  exact lv_l2i C.1 C.2.1 hd rfl (k p l e s m args below meth c G ad A H locs cells slots ls Qm C hR hl h1 h2 F)
theorem aX_i2b {x : Int32} (hd : decode md.2.1 pc = .ok (.i2b, 1)) (k : aX md E h (pc + 1) lv (.int x.toInt8.toInt32 :: st) bc bs Q) : aX md E h pc lv (.int x :: st) bc bs Q := by
  intro p l e s m args below meth c G ad A H locs cells slots ls Qm C hR hl h1 h2 F
  exact lv_i2b C.1 C.2.1 hd rfl (k p l e s m args below meth c G ad A H locs cells slots ls Qm C hR hl h1 h2 F)
theorem aX_iushr {x y : Int32} (hd : decode md.2.1 pc = .ok (.iushr, 1)) (k : aX md E h (pc + 1) lv (.int ((x.toUInt32 >>> (y.toUInt32 &&& Int32.toUInt32 31)).toInt32) :: st) bc bs Q) : aX md E h pc lv (.int y :: .int x :: st) bc bs Q := by
  intro p l e s m args below meth c G ad A H locs cells slots ls Qm C hR hl h1 h2 F
  exact lv_iushr C.1 C.2.1 hd rfl (k p l e s m args below meth c G ad A H locs cells slots ls Qm C hR hl h1 h2 F)
theorem aX_lshl {x : Int64} {y : Int32} (hd : decode md.2.1 pc = .ok (.lshl, 1)) (k : aX md E h (pc + 1) lv (.long (x <<< (y.toInt64 &&& 63)) :: st) bc bs Q) : aX md E h pc lv (.int y :: .long x :: st) bc bs Q := by
  intro p l e s m args below meth c G ad A H locs cells slots ls Qm C hR hl h1 h2 F
  exact lv_lshl C.1 C.2.1 hd rfl (k p l e s m args below meth c G ad A H locs cells slots ls Qm C hR hl h1 h2 F)
theorem aX_lshr {x : Int64} {y : Int32} (hd : decode md.2.1 pc = .ok (.lshr, 1)) (k : aX md E h (pc + 1) lv (.long (x >>> (y.toInt64 &&& 63)) :: st) bc bs Q) : aX md E h pc lv (.int y :: .long x :: st) bc bs Q := by
  intro p l e s m args below meth c G ad A H locs cells slots ls Qm C hR hl h1 h2 F
  exact lv_lshr C.1 C.2.1 hd rfl (k p l e s m args below meth c G ad A H locs cells slots ls Qm C hR hl h1 h2 F)
theorem aX_lcmp {x y : Int64} (hd : decode md.2.1 pc = .ok (.lcmp, 1)) (k : aX md E h (pc + 1) lv (.int (lg_cmp x y) :: st) bc bs Q) : aX md E h pc lv (.long y :: .long x :: st) bc bs Q := by
  intro p l e s m args below meth c G ad A H locs cells slots ls Qm C hR hl h1 h2 F
  exact W.lcmp C.1 C.2.1 hd (k p l e s m args below meth c G ad A H locs cells slots ls Qm C hR hl h1 h2 F)
theorem aX_dup {v : Value} (hd : decode md.2.1 pc = .ok (.dup, 1)) (hc : v.category = 1) (k : aX md E h (pc + 1) lv (v :: v :: st) bc bs Q) : aX md E h pc lv (v :: st) bc bs Q := by
  intro p l e s m args below meth c G ad A H locs cells slots ls Qm C hR hl h1 h2 F
  exact lv_dup C.1 C.2.1 hd ((aV_cat ad v).trans hc) (k p l e s m args below meth c G ad A H locs cells slots ls Qm C hR hl h1 h2 F)
theorem aX_pop {v : Value} (hd : decode md.2.1 pc = .ok (.pop, 1)) (hc : v.category = 1) (k : aX md E h (pc + 1) lv (st) bc bs Q) : aX md E h pc lv (v :: st) bc bs Q := by
  intro p l e s m args below meth c G ad A H locs cells slots ls Qm C hR hl h1 h2 F
  exact lv_pop C.1 C.2.1 hd ((aV_cat ad v).trans hc) (k p l e s m args below meth c G ad A H locs cells slots ls Qm C hR hl h1 h2 F)
theorem aX_dup2_11 {v w : Value} (hd : decode md.2.1 pc = .ok (.dup2, 1)) (hc : v.category = 1) (hc2 : w.category = 1) (k : aX md E h (pc + 1) lv (v :: w :: v :: w :: st) bc bs Q) : aX md E h pc lv (v :: w :: st) bc bs Q := by
  intro p l e s m args below meth c G ad A H locs cells slots ls Qm C hR hl h1 h2 F
  exact lv_dup2_11 C.1 C.2.1 hd ((aV_cat ad v).trans hc) ((aV_cat ad w).trans hc2) (k p l e s m args below meth c G ad A H locs cells slots ls Qm C hR hl h1 h2 F)
theorem aX_dup2_2 {v : Value} (hd : decode md.2.1 pc = .ok (.dup2, 1)) (hc : v.category = 2) (k : aX md E h (pc + 1) lv (v :: v :: st) bc bs Q) : aX md E h pc lv (v :: st) bc bs Q := by
  intro p l e s m args below meth c G ad A H locs cells slots ls Qm C hR hl h1 h2 F
  exact lv_dup2_2 C.1 C.2.1 hd ((aV_cat ad v).trans hc) (k p l e s m args below meth c G ad A H locs cells slots ls Qm C hR hl h1 h2 F)
theorem aX_if_eq {x : Int32} {off : Int} {tgt : Nat} (hd : decode md.2.1 pc = .ok (.ifCond .eq off, 3)) (ht : (pc : Int) + off = (tgt : Int)) (kt : x = 0 → aX md E h tgt lv st bc bs Q) (kf : ¬ x = 0 → aX md E h (pc + 3) lv st bc bs Q) : aX md E h pc lv (.int x :: st) bc bs Q := by
  intro p l e s m args below meth c G ad A H locs cells slots ls Qm C hR hl h1 h2 F
  exact lv_if_eq C.1 C.2.1 hd ht (fun c1 => kt c1 p l e s m args below meth c G ad A H locs cells slots ls Qm C hR hl h1 h2 F) (fun c1 => kf c1 p l e s m args below meth c G ad A H locs cells slots ls Qm C hR hl h1 h2 F)
theorem aX_icmp_eq {x y : Int32} {off : Int} {tgt : Nat} (hd : decode md.2.1 pc = .ok (.if_icmp .eq off, 3)) (ht : (pc : Int) + off = (tgt : Int)) (kt : x = y → aX md E h tgt lv st bc bs Q) (kf : ¬ x = y → aX md E h (pc + 3) lv st bc bs Q) : aX md E h pc lv (.int y :: .int x :: st) bc bs Q := by
  intro p l e s m args below meth c G ad A H locs cells slots ls Qm C hR hl h1 h2 F
  exact lv_icmp_eq C.1 C.2.1 hd ht (fun c1 => kt c1 p l e s m args below meth c G ad A H locs cells slots ls Qm C hR hl h1 h2 F) (fun c1 => kf c1 p l e s m args below meth c G ad A H locs cells slots ls Qm C hR hl h1 h2 F)
theorem aX_if_ne {x : Int32} {off : Int} {tgt : Nat} (hd : decode md.2.1 pc = .ok (.ifCond .ne off, 3)) (ht : (pc : Int) + off = (tgt : Int)) (kt : ¬ x = 0 → aX md E h tgt lv st bc bs Q) (kf : x = 0 → aX md E h (pc + 3) lv st bc bs Q) : aX md E h pc lv (.int x :: st) bc bs Q := by
  intro p l e s m args below meth c G ad A H locs cells slots ls Qm C hR hl h1 h2 F
  exact lv_if_ne C.1 C.2.1 hd ht (fun c1 => kt c1 p l e s m args below meth c G ad A H locs cells slots ls Qm C hR hl h1 h2 F) (fun c1 => kf c1 p l e s m args below meth c G ad A H locs cells slots ls Qm C hR hl h1 h2 F)
theorem aX_icmp_ne {x y : Int32} {off : Int} {tgt : Nat} (hd : decode md.2.1 pc = .ok (.if_icmp .ne off, 3)) (ht : (pc : Int) + off = (tgt : Int)) (kt : ¬ x = y → aX md E h tgt lv st bc bs Q) (kf : x = y → aX md E h (pc + 3) lv st bc bs Q) : aX md E h pc lv (.int y :: .int x :: st) bc bs Q := by
  intro p l e s m args below meth c G ad A H locs cells slots ls Qm C hR hl h1 h2 F
  exact lv_icmp_ne C.1 C.2.1 hd ht (fun c1 => kt c1 p l e s m args below meth c G ad A H locs cells slots ls Qm C hR hl h1 h2 F) (fun c1 => kf c1 p l e s m args below meth c G ad A H locs cells slots ls Qm C hR hl h1 h2 F)
theorem aX_if_lt {x : Int32} {off : Int} {tgt : Nat} (hd : decode md.2.1 pc = .ok (.ifCond .lt off, 3)) (ht : (pc : Int) + off = (tgt : Int)) (kt : x < 0 → aX md E h tgt lv st bc bs Q) (kf : ¬ x < 0 → aX md E h (pc + 3) lv st bc bs Q) : aX md E h pc lv (.int x :: st) bc bs Q := by
  intro p l e s m args below meth c G ad A H locs cells slots ls Qm C hR hl h1 h2 F
  exact lv_if_lt C.1 C.2.1 hd ht (fun c1 => kt c1 p l e s m args below meth c G ad A H locs cells slots ls Qm C hR hl h1 h2 F) (fun c1 => kf c1 p l e s m args below meth c G ad A H locs cells slots ls Qm C hR hl h1 h2 F)
theorem aX_icmp_lt {x y : Int32} {off : Int} {tgt : Nat} (hd : decode md.2.1 pc = .ok (.if_icmp .lt off, 3)) (ht : (pc : Int) + off = (tgt : Int)) (kt : x < y → aX md E h tgt lv st bc bs Q) (kf : ¬ x < y → aX md E h (pc + 3) lv st bc bs Q) : aX md E h pc lv (.int y :: .int x :: st) bc bs Q := by
  intro p l e s m args below meth c G ad A H locs cells slots ls Qm C hR hl h1 h2 F
  exact lv_icmp_lt C.1 C.2.1 hd ht (fun c1 => kt c1 p l e s m args below meth c G ad A H locs cells slots ls Qm C hR hl h1 h2 F) (fun c1 => kf c1 p l e s m args below meth c G ad A H locs cells slots ls Qm C hR hl h1 h2 F)
theorem aX_if_ge {x : Int32} {off : Int} {tgt : Nat} (hd : decode md.2.1 pc = .ok (.ifCond .ge off, 3)) (ht : (pc : Int) + off = (tgt : Int)) (kt : 0 ≤ x → aX md E h tgt lv st bc bs Q) (kf : ¬ 0 ≤ x → aX md E h (pc + 3) lv st bc bs Q) : aX md E h pc lv (.int x :: st) bc bs Q := by
  intro p l e s m args below meth c G ad A H locs cells slots ls Qm C hR hl h1 h2 F
  exact lv_if_ge C.1 C.2.1 hd ht (fun c1 => kt c1 p l e s m args below meth c G ad A H locs cells slots ls Qm C hR hl h1 h2 F) (fun c1 => kf c1 p l e s m args below meth c G ad A H locs cells slots ls Qm C hR hl h1 h2 F)
theorem aX_icmp_ge {x y : Int32} {off : Int} {tgt : Nat} (hd : decode md.2.1 pc = .ok (.if_icmp .ge off, 3)) (ht : (pc : Int) + off = (tgt : Int)) (kt : y ≤ x → aX md E h tgt lv st bc bs Q) (kf : ¬ y ≤ x → aX md E h (pc + 3) lv st bc bs Q) : aX md E h pc lv (.int y :: .int x :: st) bc bs Q := by
  intro p l e s m args below meth c G ad A H locs cells slots ls Qm C hR hl h1 h2 F
  exact lv_icmp_ge C.1 C.2.1 hd ht (fun c1 => kt c1 p l e s m args below meth c G ad A H locs cells slots ls Qm C hR hl h1 h2 F) (fun c1 => kf c1 p l e s m args below meth c G ad A H locs cells slots ls Qm C hR hl h1 h2 F)
theorem aX_if_gt {x : Int32} {off : Int} {tgt : Nat} (hd : decode md.2.1 pc = .ok (.ifCond .gt off, 3)) (ht : (pc : Int) + off = (tgt : Int)) (kt : 0 < x → aX md E h tgt lv st bc bs Q) (kf : ¬ 0 < x → aX md E h (pc + 3) lv st bc bs Q) : aX md E h pc lv (.int x :: st) bc bs Q := by
  intro p l e s m args below meth c G ad A H locs cells slots ls Qm C hR hl h1 h2 F
  exact lv_if_gt C.1 C.2.1 hd ht (fun c1 => kt c1 p l e s m args below meth c G ad A H locs cells slots ls Qm C hR hl h1 h2 F) (fun c1 => kf c1 p l e s m args below meth c G ad A H locs cells slots ls Qm C hR hl h1 h2 F)
theorem aX_icmp_gt {x y : Int32} {off : Int} {tgt : Nat} (hd : decode md.2.1 pc = .ok (.if_icmp .gt off, 3)) (ht : (pc : Int) + off = (tgt : Int)) (kt : y < x → aX md E h tgt lv st bc bs Q) (kf : ¬ y < x → aX md E h (pc + 3) lv st bc bs Q) : aX md E h pc lv (.int y :: .int x :: st) bc bs Q := by
  intro p l e s m args below meth c G ad A H locs cells slots ls Qm C hR hl h1 h2 F
  exact lv_icmp_gt C.1 C.2.1 hd ht (fun c1 => kt c1 p l e s m args below meth c G ad A H locs cells slots ls Qm C hR hl h1 h2 F) (fun c1 => kf c1 p l e s m args below meth c G ad A H locs cells slots ls Qm C hR hl h1 h2 F)
theorem aX_if_le {x : Int32} {off : Int} {tgt : Nat} (hd : decode md.2.1 pc = .ok (.ifCond .le off, 3)) (ht : (pc : Int) + off = (tgt : Int)) (kt : x ≤ 0 → aX md E h tgt lv st bc bs Q) (kf : ¬ x ≤ 0 → aX md E h (pc + 3) lv st bc bs Q) : aX md E h pc lv (.int x :: st) bc bs Q := by
  intro p l e s m args below meth c G ad A H locs cells slots ls Qm C hR hl h1 h2 F
  exact lv_if_le C.1 C.2.1 hd ht (fun c1 => kt c1 p l e s m args below meth c G ad A H locs cells slots ls Qm C hR hl h1 h2 F) (fun c1 => kf c1 p l e s m args below meth c G ad A H locs cells slots ls Qm C hR hl h1 h2 F)
theorem aX_icmp_le {x y : Int32} {off : Int} {tgt : Nat} (hd : decode md.2.1 pc = .ok (.if_icmp .le off, 3)) (ht : (pc : Int) + off = (tgt : Int)) (kt : x ≤ y → aX md E h tgt lv st bc bs Q) (kf : ¬ x ≤ y → aX md E h (pc + 3) lv st bc bs Q) : aX md E h pc lv (.int y :: .int x :: st) bc bs Q := by
  intro p l e s m args below meth c G ad A H locs cells slots ls Qm C hR hl h1 h2 F
  exact lv_icmp_le C.1 C.2.1 hd ht (fun c1 => kt c1 p l e s m args below meth c G ad A H locs cells slots ls Qm C hR hl h1 h2 F) (fun c1 => kf c1 p l e s m args below meth c G ad A H locs cells slots ls Qm C hR hl h1 h2 F)
theorem aX_goto {off : Int} {tgt : Nat} (hd : decode md.2.1 pc = .ok (.goto off, 3)) (ht : (pc : Int) + off = (tgt : Int)) (k : aX md E h tgt lv st bc bs Q) : aX md E h pc lv st bc bs Q := by
  intro p l e s m args below meth c G ad A H locs cells slots ls Qm C hR hl h1 h2 F
  exact lv_goto C.1 C.2.1 hd ht (k p l e s m args below meth c G ad A H locs cells slots ls Qm C hR hl h1 h2 F)
theorem aX_tableIn {dflt lo hi : Int} {offs : Array Int} {len : Nat} {x : Int32} {off : Int} {tgt : Nat} (hd : decode md.2.1 pc = .ok (.tableswitch dflt lo hi offs, len)) (q1 : ¬ x.toInt < lo) (q2 : ¬ hi < x.toInt) (ho : offs[(x.toInt - lo).toNat]? = some off) (ht : (pc : Int) + off = (tgt : Int)) (k : aX md E h tgt lv st bc bs Q) : aX md E h pc lv (.int x :: st) bc bs Q := by
  intro p l e s m args below meth c G ad A H locs cells slots ls Qm C hR hl h1 h2 F
  exact lv_tableIn C.1 C.2.1 hd q1 q2 ho ht (k p l e s m args below meth c G ad A H locs cells slots ls Qm C hR hl h1 h2 F)
theorem aX_tableOut {dflt lo hi : Int} {offs : Array Int} {len : Nat} {x : Int32} {tgt : Nat} (hd : decode md.2.1 pc = .ok (.tableswitch dflt lo hi offs, len)) (q1 : x.toInt < lo ∨ hi < x.toInt) (ht : (pc : Int) + dflt = (tgt : Int)) (k : aX md E h tgt lv st bc bs Q) : aX md E h pc lv (.int x :: st) bc bs Q := by
  intro p l e s m args below meth c G ad A H locs cells slots ls Qm C hR hl h1 h2 F
  exact lv_tableOut C.1 C.2.1 hd q1 ht (k p l e s m args below meth c G ad A H locs cells slots ls Qm C hR hl h1 h2 F)
theorem aX_ldc {idx : Nat} {v : Int32} (hd : decode md.2.1 pc = .ok (.ldc idx, 2)) (hw : Cond.constant md.1.cls idx v ∈ aTb) (k : aX md E h (pc + 2) lv (.int v :: st) bc bs Q) : aX md E h pc lv st bc bs Q := by
  intro p l e s m args below meth c G ad A H locs cells slots ls Qm C hR hl h1 h2 F
  exact lv_ldc C.1 C.2.1 C.2.2.2.1 (C.2.2.2.2.1 _ hw) hd (k p l e s m args below meth c G ad A H locs cells slots ls Qm C hR hl h1 h2 F)
theorem aX_ldcw {idx : Nat} {v : Int32} (hd : decode md.2.1 pc = .ok (.ldc_w idx, 3)) (hw : Cond.constant md.1.cls idx v ∈ aTb) (k : aX md E h (pc + 3) lv (.int v :: st) bc bs Q) : aX md E h pc lv st bc bs Q := by
  intro p l e s m args below meth c G ad A H locs cells slots ls Qm C hR hl h1 h2 F
  exact lv_ldcw C.1 C.2.1 C.2.2.2.1 (C.2.2.2.2.1 _ hw) hd (k p l e s m args below meth c G ad A H locs cells slots ls Qm C hR hl h1 h2 F)
theorem aX_ldc2 {idx : Nat} {v : Int64} (hd : decode md.2.1 pc = .ok (.ldc2_w idx, 3)) (hw : Cond.constantLong md.1.cls idx v ∈ aTb) (k : aX md E h (pc + 3) lv (.long v :: st) bc bs Q) : aX md E h pc lv st bc bs Q := by
  intro p l e s m args below meth c G ad A H locs cells slots ls Qm C hR hl h1 h2 F
  exact lv_ldc2 C.1 C.2.1 C.2.2.2.1 (C.2.2.2.2.1 _ hw) hd (k p l e s m args below meth c G ad A H locs cells slots ls Qm C hR hl h1 h2 F)
end AROW
end
section
/-! ROWS OF THE ABSTRACT MACHINE: fields, arrays, statics -/
def aVal (h : aH) (t : FieldType) (q f : Nat) : Value := match t with
  | .int => .int (h.2.1 q f)
  | .boolean => .int (h.2.1 q f)
  | .long => .long (h.2.2.1 q f)
  | _ => va_rf (h.2.2.2 q f)
theorem aV_rf (ad : Nat → Nat) (r : Option Nat) : aV ad (va_rf r) = va_rf (r.map ad) := by cases r <;> rfl
theorem aFv_val (ad : Nat → Nat) (h : aH) (t : FieldType) (q f : Nat) : aFv ad h t q f = aV ad (aVal h t q f) := by
  cases t <;> first | rfl | exact (aV_rf ad _).symm
def aLkF (own : String) (idx ci f : Nat) : Prop := ∃ (C : String) (T : u_T) (N : Nat), vwCl[ci]? = some (C, T, N) ∧ f < N ∧ (∀ w ∈ u_ws C T N, w ∈ aTb) ∧ Cond.fieldLink own idx C (T f).2.1 (T f).2.2.1 ∈ aTb ∧ (T f).1 = C ∧ (∀ k, k < N → parseFieldDescriptor (T k).2.2.1 = some (aT ci k)) ∧ (∀ a, a < N → ∀ b, b < N → a ≠ b → (T a).2.1 ≠ (T b).2.1)
theorem aN_of {ci : Nat} {C : String} {T : u_T} {N : Nat} (h : vwCl[ci]? = some (C, T, N)) : aN ci = N := by unfold aN; rw [h]; rfl
theorem aEnt_obj {G : aG} {ad : Nat → Nat} {h : aH} {q ci z : Nat} : aEnt G ad h q (10 + ci, z) = .inr (ci, aFs ad h ci q) := by
  unfold aEnt
  have e : 10 + ci - 10 = ci := by omega
  rw [if_neg (by show ¬ 10 + ci < 3; omega), if_neg (by show ¬ 10 + ci = 3; omega), if_neg (by show ¬ 10 + ci < 10; omega)]
  show Sum.inr (10 + ci - 10, aFs ad h (10 + ci - 10) q) = _
  rw [e]
theorem aFs_get {ad : Nat → Nat} {h : aH} {ci q f : Nat} (hf : f < aN ci) : (aFs ad h ci q)[f]? = some (aV ad (aVal h (aT ci f) q f)) := by
  unfold aFs
  rw [List.getElem?_map, List.getElem?_range hf, Option.map_some, aFv_val]
theorem aFs_len {ad : Nat → Nat} {h : aH} {ci q : Nat} : (aFs ad h ci q).length = aN ci := by unfold aFs; rw [List.length_map, List.length_range]
section AHP
variable {md : aMd} {E : aE} {h : aH} {pc : Nat} {lv : List (Nat × Value)} {st : List Value} {bc bs : Nat} {Q : Option Value → aH → Prop}
theorem aX_get {idx ci f z q : Nat} {v : Value} (hd : decode md.2.1 pc = .ok (.getfield idx, 3)) (hL : aLkF md.1.cls idx ci f) (hs : aSh h q = some (10 + ci, z)) (hv : aVal h (aT ci f) q f = v) (k : aX md E h (pc + 3) lv (v :: st) bc bs Q) : aX md E h pc lv (.ref q :: st) bc bs Q := by
  subst hv
  intro p l e s m args below meth c G ad A H locs cells slots ls Qm C hR hl h1 h2 F
  obtain ⟨Cn, T, N, g1, g2, g3, g4, g5, -⟩ := hL
  exact va_get (D := G.1) (ci := ci) (C := Cn) (T := T) (N := N) (ref := Cn) C.1 C.2.1 C.2.2.2.2.1 g3 C.2.2.2.1 C.2.2.2.2.2.2.1 hR.1 (q - 8) ((aWs_get hs).trans (by rw [aEnt_obj])) g1 f g2 (C.2.2.2.2.1 _ g4) (fun x hx => by rw [g5] at hx; exact hx) (aFs_get (by rw [aN_of g1]; exact g2)) hd (k p l e s m args below meth c G ad A H locs cells slots ls Qm C hR hl h1 h2 F)
/-- the cell's entry anew, the rest as it was -/
theorem aR_set {G : aG} {ad : Nat → Nat} {h h' : aH} {A : Nat → Prop} {s : State} {H1 : Heap} {locs1 : List Loc} {q : Nat} {sn : Nat × Nat} {en : va_E} (hs : aSh h q = some sn) (e1 : h'.1 = h.1) (he : aEnt G ad h' q sn = en) (ho : ∀ k, k ≠ q → ∀ z, aEnt G ad h' k z = aEnt G ad h k z)
    (hP : va_P G.1 vwCl ((aWs G ad h).set (q - 8) (ad q, en)) H1) (hD : va_D A ((aWs G ad h).set (q - 8) (ad q, en))) (hS : va_S A s.heap H1 locs1) : aR G ad h' A s H1 locs1 := by
  rw [aWs_set hs e1 he ho] at hP hD
  exact ⟨hP, hD, hS⟩
theorem aEnt_same {G : aG} {ad : Nat → Nat} {h h' : aH} {k : Nat} (e1 : h'.2.1 k = h.2.1 k) (e2 : h'.2.2.1 k = h.2.2.1 k) (e3 : h'.2.2.2 k = h.2.2.2 k) (z : Nat × Nat) : aEnt G ad h' k z = aEnt G ad h k z := by
  have e4 : ∀ t f, aFv ad h' t k f = aFv ad h t k f := fun t f => by
    cases t <;> simp only [aFv, e1, e2, e3]
  unfold aEnt aFs
  simp only [e1, e2, e3, e4]
/-- a field is written: its value fits its type -/
def aOkF (t : FieldType) (v : Value) : Prop := match t, v with
  | .int, .int _ => True
  | .boolean, .int x => x = 0 ∨ x = 1
  | .long, .long _ => True
  | .object _, .ref _ => True
  | .array _, .ref _ => True
  | _, _ => False
def aPutF (h : aH) (t : FieldType) (q f : Nat) (v : Value) : aH := match t, v with
  | .int, .int x => (h.1, aU h.2.1 q f x, h.2.2)
  | .boolean, .int x => (h.1, aU h.2.1 q f x, h.2.2)
  | .long, .long x => (h.1, h.2.1, aU h.2.2.1 q f x, h.2.2.2)
  | .object _, .ref r => (h.1, h.2.1, h.2.2.1, aU h.2.2.2 q f (some r))
  | .array _, .ref r => (h.1, h.2.1, h.2.2.1, aU h.2.2.2 q f (some r))
  | _, _ => h
theorem aPutF_1 {h : aH} {t : FieldType} {q f : Nat} {v : Value} : (aPutF h t q f v).1 = h.1 := by
  cases t <;> cases v <;> rfl
theorem aPutF_o {G : aG} {ad : Nat → Nat} {h : aH} {t : FieldType} {q f k : Nat} {v : Value} (hk : k ≠ q) (z : Nat × Nat) : aEnt G ad (aPutF h t q f v) k z = aEnt G ad h k z := by
  cases t <;> cases v <;> first | rfl | (refine aEnt_same ?_ ?_ ?_ z <;> first | rfl | exact aU_o hk)
theorem aPutF_val {h : aH} {t t' : FieldType} {q f g : Nat} {v : Value} (ho : aOkF t v) (hg : g ≠ f) : aVal (aPutF h t q f v) t' q g = aVal h t' q g := by
  have hn : ¬ (q = q ∧ g = f) := fun z => hg z.2
  cases t <;> cases v <;> first | exact ho.elim | (cases t' <;> simp only [aVal, aPutF, aU_n hn]) 
theorem aPutF_self {h : aH} {t : FieldType} {q f : Nat} {v : Value} (ho : aOkF t v) : aVal (aPutF h t q f v) t q f = v := by
  cases t <;> cases v <;> first | exact ho.elim | (simp only [aVal, aPutF, aU_s]; try rfl)
theorem aPutF_fs {ad : Nat → Nat} {h : aH} {ci q f : Nat} {v : Value} (hf : f < aN ci) (ho : aOkF (aT ci f) v) : aFs ad (aPutF h (aT ci f) q f v) ci q = (aFs ad h ci q).set f (aV ad v) := by
  apply List.ext_getElem?
  intro g
  by_cases hg : g = f
  · subst hg
    rw [List.getElem?_set_self (by rw [aFs_len]; exact hf), aFs_get hf, aPutF_self ho]
  · rw [List.getElem?_set_ne (Ne.symm hg)]
    by_cases hl : g < aN ci
    · rw [aFs_get hl, aFs_get hl, aPutF_val ho hg]
    · rw [List.getElem?_eq_none (by rw [aFs_len]; omega), List.getElem?_eq_none (by rw [aFs_len]; omega)]
theorem aOkF_nar {ad : Nat → Nat} {t : FieldType} {v : Value} (ho : aOkF t v) : narrow t (aV ad v) = aV ad v ∧ fits t (aV ad v) = true := by
  cases t <;> cases v <;> first | exact ho.elim | exact ⟨rfl, rfl⟩ | (rcases ho with rfl | rfl <;> exact ⟨rfl, rfl⟩)
theorem aX_put {idx ci f z q : Nat} {v : Value} (hd : decode md.2.1 pc = .ok (.putfield idx, 3)) (hL : aLkF md.1.cls idx ci f) (hfin : ∀ C T N, vwCl[ci]? = some (C, T, N) → (T f).2.2.2 = false ∨ (C = md.1.cls ∧ md.1.name = "<init>")) (hs : aSh h q = some (10 + ci, z)) (ho : aOkF (aT ci f) v) (k : aX md E (aPutF h (aT ci f) q f v) (pc + 3) lv st bc bs Q) : aX md E h pc lv (v :: .ref q :: st) bc bs Q := by
  intro p l e s m args below meth c G ad A H locs cells slots ls Qm C hR hl h1 h2 F
  obtain ⟨Cn, T, N, g1, g2, g3, g4, g5, g6, g7⟩ := hL
  have hF : ∀ (H1 : Heap) (locs1 : List Loc), va_P G.1 vwCl ((aWs G ad h).set (q - 8) (ad q, .inr (ci, (aFs ad h ci q).set f (aV ad v)))) H1 → va_D A ((aWs G ad h).set (q - 8) (ad q, .inr (ci, (aFs ad h ci q).set f (aV ad v)))) → va_S A s.heap H1 locs1 → W p l e md.2.2.2.2 s m args below meth c H1 locs1 cells slots Qm (F0 m (pc + 3) ls (st.map (aV ad))) := fun H1 locs1 a1 a2 a3 =>
    k p l e s m args below meth c G ad A H1 locs1 cells slots ls Qm C (aR_set hs aPutF_1 (by rw [aEnt_obj, aPutF_fs (by rw [aN_of g1]; exact g2) ho]) (fun k9 h9 z9 => aPutF_o h9 z9) a1 a2 a3) hl h1 h2 (F.tr (aLe.rf aPutF_1))
  have hty := g6 f g2
  by_cases hb : (T f).2.2.2 = false
  · exact va_put (D := G.1) (ci := ci) (C := Cn) (T := T) (N := N) (ref := Cn) (ty := aT ci f) C.1 C.2.1 C.2.2.2.2.1 g3 (aT ci) g6 g7 C.2.2.2.1 C.2.2.2.2.2.2.1 hR.1 hR.2.1 hR.2.2 (q - 8) ((aWs_get hs).trans (by rw [aEnt_obj])) g1 f g2 (C.2.2.2.2.1 _ g4) (fun x hx => by rw [g5] at hx; exact hx) hb hty (aOkF_nar ho).1 (aOkF_nar ho).2 (by rw [aFs_len, aN_of g1]; exact g2) hd hF
  · rcases hfin Cn T N g1 with w | ⟨w1, w2⟩
    · exact absurd w hb
    · exact va_putF (D := G.1) (ci := ci) (C := Cn) (T := T) (N := N) (ref := Cn) (ty := aT ci f) C.1 C.2.1 C.2.2.2.2.1 g3 (aT ci) g6 g7 C.2.2.2.1 C.2.2.2.2.2.2.1 hR.1 hR.2.1 hR.2.2 (q - 8) ((aWs_get hs).trans (by rw [aEnt_obj])) g1 f g2 (C.2.2.2.2.1 _ g4) (fun x hx => by rw [g5] at hx; exact hx) (by cases hq : (T f).2.2.2 with | true => rfl | false => exact absurd hq hb) (C.2.2.2.2.2.1 w2) (g5.trans w1) hty (aOkF_nar ho).1 (aOkF_nar ho).2 (by rw [aFs_len, aN_of g1]; exact g2) hd hF
theorem aX_iald {q n : Nat} {i : Int32} (hd : decode md.2.1 pc = .ok (.iaload, 1)) (hs : aSh h q = some (0, n)) (hin : vp_in i n) (k : aX md E h (pc + 1) lv (.int (h.2.1 q i.toNatClampNeg) :: st) bc bs Q) : aX md E h pc lv (.int i :: .ref q :: st) bc bs Q := by
  intro p l e s m args below meth c G ad A H locs cells slots ls Qm C hR hl h1 h2 F
  exact va_iald (D := G.1) C.1 C.2.1 C.2.2.2.2.2.2.1 hR.1 (q - 8) 0 (aWs_get hs) rfl hin hd (k p l e s m args below meth c G ad A H locs cells slots ls Qm C hR hl h1 h2 F)
theorem aX_zald {q n : Nat} {i : Int32} (hd : decode md.2.1 pc = .ok (.baload, 1)) (hs : aSh h q = some (1, n)) (hin : vp_in i n) (k : aX md E h (pc + 1) lv (.int (h.2.1 q i.toNatClampNeg) :: st) bc bs Q) : aX md E h pc lv (.int i :: .ref q :: st) bc bs Q := by
  intro p l e s m args below meth c G ad A H locs cells slots ls Qm C hR hl h1 h2 F
  exact va_zald (D := G.1) C.1 C.2.1 C.2.2.2.2.2.2.1 hR.1 (q - 8) 1 (aWs_get hs) rfl hin hd (k p l e s m args below meth c G ad A H locs cells slots ls Qm C hR hl h1 h2 F)
theorem aX_bald {q n : Nat} {i : Int32} (hd : decode md.2.1 pc = .ok (.baload, 1)) (hs : aSh h q = some (2, n)) (hin : vp_in i n) (k : aX md E h (pc + 1) lv (.int (h.2.1 q i.toNatClampNeg) :: st) bc bs Q) : aX md E h pc lv (.int i :: .ref q :: st) bc bs Q := by
  intro p l e s m args below meth c G ad A H locs cells slots ls Qm C hR hl h1 h2 F
  exact va_bald (D := G.1) C.1 C.2.1 C.2.2.2.2.2.2.1 hR.1 (q - 8) 2 (aWs_get hs) rfl hin hd (k p l e s m args below meth c G ad A H locs cells slots ls Qm C hR hl h1 h2 F)
theorem aX_lald {q n : Nat} {i : Int32} (hd : decode md.2.1 pc = .ok (.laload, 1)) (hs : aSh h q = some (3, n)) (hin : vp_in i n) (k : aX md E h (pc + 1) lv (.long (h.2.2.1 q i.toNatClampNeg) :: st) bc bs Q) : aX md E h pc lv (.int i :: .ref q :: st) bc bs Q := by
  intro p l e s m args below meth c G ad A H locs cells slots ls Qm C hR hl h1 h2 F
  exact va_lald (D := G.1) C.1 C.2.1 C.2.2.2.2.2.2.1 hR.1 (q - 8) 3 (aWs_get hs) rfl hin hd (k p l e s m args below meth c G ad A H locs cells slots ls Qm C hR hl h1 h2 F)
/-- an array of references, of objects or of rows -/
theorem aX_aald {q n r : Nat} {i : Int32} {kd : Nat} (hd : decode md.2.1 pc = .ok (.aaload, 1)) (hs : aSh h q = some (kd, n)) (hkd : kd = 4 ∨ kd = 5) (hin : vp_in i n) (hr : h.2.2.2 q i.toNatClampNeg = some r) (k : aX md E h (pc + 1) lv (.ref r :: st) bc bs Q) : aX md E h pc lv (.int i :: .ref q :: st) bc bs Q := by
  intro p l e s m args below meth c G ad A H locs cells slots ls Qm C hR hl h1 h2 F
  have hk := k p l e s m args below meth c G ad A H locs cells slots ls Qm C hR hl h1 h2 F
  have hlt : i.toNatClampNeg < n := Nat.not_le.mp fun q => hin (Or.inr q)
  have hv : va_rf ((h.2.2.2 q i.toNatClampNeg).map ad) = Value.ref (ad r) := by rw [hr]; rfl
  rcases hkd with rfl | rfl
  · refine va_aldq (D := G.1) (C := "JustMoves$Whole") (f := fun i => (h.2.2.2 q i).map ad) C.1 C.2.1 C.2.2.2.2.2.2.1 hR.1 (q - 8) 4 (aWs_get hs) rfl hin hd ?_
    show W p l e md.2.2.2.2 s m args below meth c H locs cells slots Qm (F0 m (pc + 1) ls (va_rf ((h.2.2.2 q i.toNatClampNeg).map ad) :: st.map (aV ad)))
    rw [hv]
    exact hk
  · have hc : H[ad q]? = some (vp_cell (G.2 5) (n, .inr (.inr (.inr (.inr (fun i => (h.2.2.2 q i).map ad)))))) := hR.1 (q - 8) _ (aWs_get hs)
    exact W.aald (v := .ref (ad r)) (ty := .array .long) C.1 C.2.1 hc ((C.2.2.2.2.2.2.1.2 5 _ rfl).1 n (fun j => va_rf ((h.2.2.2 q j).map ad))) rfl (fun q => by cases q) (by show ¬ (i < 0 ∨ (arrV _ _ _).slots.size ≤ _); rw [arrV_size]; exact hin) (by show (arrV _ _ _).slots[_]? = _; rw [arrV_read _ _ hlt, hv]) rfl rfl hd hk
theorem aX_iast {q n : Nat} {i x : Int32} (hd : decode md.2.1 pc = .ok (.iastore, 1)) (hs : aSh h q = some (0, n)) (hin : vp_in i n) (k : aX md E (h.1, aU h.2.1 q i.toNatClampNeg x, h.2.2) (pc + 1) lv st bc bs Q) : aX md E h pc lv (.int x :: .int i :: .ref q :: st) bc bs Q := by
  intro p l e s m args below meth c G ad A H locs cells slots ls Qm C hR hl h1 h2 F
  exact va_iast (D := G.1) C.1 C.2.1 C.2.2.2.2.2.2.1 hR.1 hR.2.1 hR.2.2 (q - 8) 0 (aWs_get hs) rfl hin hd (fun H1 locs1 a1 a2 a3 => k p l e s m args below meth c G ad A H1 locs1 cells slots ls Qm C (aR_set hs rfl (by show Sum.inl (G.2 0, n, Sum.inl (aU h.2.1 q i.toNatClampNeg x q)) = _; congr 4; funext j; simp [aU, upd]) (fun k9 h9 z9 => by refine aEnt_same ?_ ?_ ?_ z9 <;> first | rfl | exact aU_o h9) a1 a2 a3) hl h1 h2 (F.tr (aLe.rf rfl)))
theorem aX_zast {q n : Nat} {i x : Int32} (hd : decode md.2.1 pc = .ok (.bastore, 1)) (hs : aSh h q = some (1, n)) (hin : vp_in i n) (k : aX md E (h.1, aU h.2.1 q i.toNatClampNeg (vp_nar .boolean x), h.2.2) (pc + 1) lv st bc bs Q) : aX md E h pc lv (.int x :: .int i :: .ref q :: st) bc bs Q := by
  intro p l e s m args below meth c G ad A H locs cells slots ls Qm C hR hl h1 h2 F
  exact va_zast (D := G.1) C.1 C.2.1 C.2.2.2.2.2.2.1 hR.1 hR.2.1 hR.2.2 (q - 8) 1 (aWs_get hs) rfl hin hd (fun H1 locs1 a1 a2 a3 => k p l e s m args below meth c G ad A H1 locs1 cells slots ls Qm C (aR_set hs rfl (by show Sum.inl (G.2 1, n, Sum.inl (aU h.2.1 q i.toNatClampNeg (vp_nar .boolean x) q)) = _; congr 4; funext j; simp [aU, upd]) (fun k9 h9 z9 => by refine aEnt_same ?_ ?_ ?_ z9 <;> first | rfl | exact aU_o h9) a1 a2 a3) hl h1 h2 (F.tr (aLe.rf rfl)))
theorem aX_bast {q n : Nat} {i x : Int32} (hd : decode md.2.1 pc = .ok (.bastore, 1)) (hs : aSh h q = some (2, n)) (hin : vp_in i n) (k : aX md E (h.1, aU h.2.1 q i.toNatClampNeg (vp_nar .byte x), h.2.2) (pc + 1) lv st bc bs Q) : aX md E h pc lv (.int x :: .int i :: .ref q :: st) bc bs Q := by
  intro p l e s m args below meth c G ad A H locs cells slots ls Qm C hR hl h1 h2 F
  exact va_bast (D := G.1) C.1 C.2.1 C.2.2.2.2.2.2.1 hR.1 hR.2.1 hR.2.2 (q - 8) 2 (aWs_get hs) rfl hin hd (fun H1 locs1 a1 a2 a3 => k p l e s m args below meth c G ad A H1 locs1 cells slots ls Qm C (aR_set hs rfl (by show Sum.inl (G.2 2, n, Sum.inl (aU h.2.1 q i.toNatClampNeg (vp_nar .byte x) q)) = _; congr 4; funext j; simp [aU, upd]) (fun k9 h9 z9 => by refine aEnt_same ?_ ?_ ?_ z9 <;> first | rfl | exact aU_o h9) a1 a2 a3) hl h1 h2 (F.tr (aLe.rf rfl)))
theorem aX_last {q n : Nat} {i : Int32} {x : Int64} (hd : decode md.2.1 pc = .ok (.lastore, 1)) (hs : aSh h q = some (3, n)) (hin : vp_in i n) (k : aX md E (h.1, h.2.1, aU h.2.2.1 q i.toNatClampNeg x, h.2.2.2) (pc + 1) lv st bc bs Q) : aX md E h pc lv (.long x :: .int i :: .ref q :: st) bc bs Q := by
  intro p l e s m args below meth c G ad A H locs cells slots ls Qm C hR hl h1 h2 F
  exact va_last (D := G.1) C.1 C.2.1 C.2.2.2.2.2.2.1 hR.1 hR.2.1 hR.2.2 (q - 8) 3 (aWs_get hs) rfl hin hd (fun H1 locs1 a1 a2 a3 => k p l e s m args below meth c G ad A H1 locs1 cells slots ls Qm C (aR_set hs rfl (by show Sum.inl (G.2 3, n, Sum.inr (Sum.inl (aU h.2.2.1 q i.toNatClampNeg x q))) = _; congr 5; funext j; simp [aU, vp_updL]) (fun k9 h9 z9 => by refine aEnt_same ?_ ?_ ?_ z9 <;> first | rfl | exact aU_o h9) a1 a2 a3) hl h1 h2 (F.tr (aLe.rf rfl)))
/-- an array that is no cell of the world: a static one, or the script -/
theorem aX_eld {q n : Nat} {f : Nat → Int32} {i : Int32} (hd : decode md.2.1 pc = .ok (.iaload, 1)) (hE : E[q]? = some (n, f)) (hin : vp_in i n) (k : aX md E h (pc + 1) lv (.int (f i.toNatClampNeg) :: st) bc bs Q) : aX md E h pc lv (.int i :: .ref q :: st) bc bs Q := by
  intro p l e s m args below meth c G ad A H locs cells slots ls Qm C hR hl h1 h2 F
  obtain ⟨cell, e1, e2, e3, e4, e5, e6, e7⟩ := C.2.2.2.2.2.2.2.2.2.1 q _ hE
  have hlt : i.toNatClampNeg < n := Nat.not_le.mp fun q => hin (Or.inr q)
  exact W.iald (v := .int (f i.toNatClampNeg)) C.1 C.2.1 (by rw [hR.2.2.2.1 (ad q) (Array.getElem?_eq_some_iff.mp e1).1 e7]; exact e1) e2 e3 (fun z => z.elim (fun y => hin (Or.inl y)) (fun y => by have e4' : n ≤ cell.slots.size := e4; omega)) (e6 _ hlt) rfl rfl hd (k p l e s m args below meth c G ad A H locs cells slots ls Qm C hR hl h1 h2 F)
theorem aX_elen {q n : Nat} {f : Nat → Int32} (hd : decode md.2.1 pc = .ok (.arraylength, 1)) (hE : E[q]? = some (n, f)) (k : aX md E h (pc + 1) lv (.int (Int32.ofNat n) :: st) bc bs Q) : aX md E h pc lv (.ref q :: st) bc bs Q := by
  intro p l e s m args below meth c G ad A H locs cells slots ls Qm C hR hl h1 h2 F
  obtain ⟨cell, e1, e2, e3, e4, e5, e6, e7⟩ := C.2.2.2.2.2.2.2.2.2.1 q _ hE
  exact W.alen (n := Int32.ofNat n) C.1 C.2.1 (by rw [hR.2.2.2.1 (ad q) (Array.getElem?_eq_some_iff.mp e1).1 e7]; exact e1) e2 e5 rfl rfl hd (k p l e s m args below meth c G ad A H locs cells slots ls Qm C hR hl h1 h2 F)
theorem aX_alen {q n kd : Nat} (hd : decode md.2.1 pc = .ok (.arraylength, 1)) (hs : aSh h q = some (kd, n)) (hk : kd = 0 ∨ kd = 3) (k : aX md E h (pc + 1) lv (.int (Int32.ofNat n) :: st) bc bs Q) : aX md E h pc lv (.ref q :: st) bc bs Q := by
  intro p l e s m args below meth c G ad A H locs cells slots ls Qm C hR hl h1 h2 F
  rcases hk with rfl | rfl
  · exact va_alen (D := G.1) C.1 C.2.1 C.2.2.2.2.2.2.1 hR.1 (q - 8) 0 (aWs_get hs) rfl rfl hd (k p l e s m args below meth c G ad A H locs cells slots ls Qm C hR hl h1 h2 F)
  · exact va_alen (D := G.1) C.1 C.2.1 C.2.2.2.2.2.2.1 hR.1 (q - 8) 3 (aWs_get hs) rfl rfl hd (k p l e s m args below meth c G ad A H locs cells slots ls Qm C hR hl h1 h2 F)
theorem aX_gets {idx i : Nat} {nm : String} (hd : decode md.2.1 pc = .ok (.getstatic idx, 3)) (hi : aSt[i]? = some nm) (hw : Cond.fieldLink md.1.cls idx "JustMoves" nm "[I" ∈ aTb ∨ Cond.fieldLinkNest md.1.cls idx "JustMoves" nm "[I" "JustMoves" ∈ aNs) (k : aX md E h (pc + 3) lv (.ref i :: st) bc bs Q) : aX md E h pc lv st bc bs Q := by
  intro p l e s m args below meth c G ad A H locs cells slots ls Qm C hR hl h1 h2 F
  have hZ := C.2.2.2.2.2.2.2.2.2.2.1 i nm hi
  have hk := k p l e s m args below meth c G ad A H locs cells slots ls Qm C hR hl h1 h2 F
  rcases hw with hw | hw
  · exact va_gets C.1 C.2.1 hZ hR.2.2 C.2.2.2.1 (C.2.2.2.2.1 _ hw) (fun _ z => z) hd hk
  · exact va_getsN C.1 C.2.1 hZ hR.2.2 C.2.2.2.1 (va_Nw.use rfl (C.2.2.2.2.2.2.2.2.2.2.2.1 _ hw)) (fun _ z => z) hd hk
end AHP
end
section
/-! CONTRACTS OF THE ABSTRACT MACHINE, AND CALLS -/
def aE0 : aE := [(12, fun n => ([1, 16, 9, 6, 5, 4, 45, 3, 8, 5, 9, 15] : List Int32).getD n 0), (12, fun n => ([1, 15, 8, 5, 4, 3, 32, 2, 5, 3, 5, 8] : List Int32).getD n 0), (6, fun n => ([2, 3, 5, 7, 11, 13] : List Int32).getD n 0), (6, fun n => ([120000, 190196, 278631, 336883, 415132, 444053] : List Int32).getD n 0), (5, fun n => ([100000, 1, 4, 2, 1] : List Int32).getD n 0), (5, fun n => ([1000000, 99, 99, 99, 99] : List Int32).getD n 0), (20, fun n => ([1073741789, 1073741783, 1073741741, 1073741723, 1073741719, 1073741717, 1073741689, 1073741671, 1073741663, 1073741651, 1073741621, 1073741567, 1073741561, 1073741527, 1073741503, 1073741477, 1073741467, 1073741441, 1073741419, 1073741399] : List Int32).getD n 0)]
def aMP (G : aG) (ad : Nat → Nat) (h : aH) (sz : Nat) (vs : List Value) : Array Value → State → Prop := va_Pc (vs.map (aV ad)) (fun U => U.heap.size = sz ∧ va_P G.1 vwCl (aWs G ad h) U.heap ∧ va_D (fun _ => True) (aWs G ad h) ∧ aK G aE0 ad (va_A (aWs G ad h) sz) U)
def aMQ (G : aG) (ad : Nat → Nat) (h : aH) (sz : Nat) (Q : Option Value → aH → Prop) : Array Value → State → Outcome → State → Prop := fun _ st oc t =>
  (∃ (r : Option Value) (ad' : Nat → Nat) (h' : aH), oc = .returned (r.map (aV ad')) ∧ aLe h ad h' ad' ∧ Q r h' ∧ va_P G.1 vwCl (aWs G ad' h') t.heap ∧ va_D (va_A (aWs G ad h) sz) (aWs G ad' h')) ∧ va_F (va_A (aWs G ad h) sz) st t
/-- method md's contract: called with vs at the heap h it returns, and Q holds of its answer and of the heap behind it -/
def aM (md : aMd) (vs : List Value) (h : aH) (Q : Option Value → aH → Prop) : Prop :=
  ∀ (l : Launch) (G : aG) (ad : Nat → Nat) (sz : Nat), Met l md.1 (Cond.code md.1 md.2.1 md.2.2.1 md.2.2.2.1 :: aTb) md.2.2.2.2 (aMP G ad h sz vs) (aMQ G ad h sz Q) md.2.2.2.2.cells md.2.2.2.2.slots (va_A (aWs G ad h) sz)
theorem aLv_args (ad : Nat → Nat) : ∀ (vs : List Value) (i : Nat), lv_args i (vs.map (aV ad)) = aLv ad (lv_args i vs)
  | [], _ => rfl
  | v :: vs, i => by
    show (i, aV ad v) :: lv_args (if (aV ad v).category = 2 then i + 2 else i + 1) (vs.map (aV ad)) = (i, aV ad v) :: aLv ad (lv_args (if v.category = 2 then i + 2 else i + 1) vs)
    rw [aV_cat, aLv_args ad vs]
theorem aSl_len (ad : Nat → Nat) : ∀ (vs : List Value), (lg_sl (vs.map (aV ad))).length = (lg_sl vs).length
  | [] => rfl
  | v :: vs => by
    have := aSl_len ad vs
    unfold lg_sl at this ⊢
    simp only [List.map_cons, List.flatMap_cons, List.length_append, aV_cat, this]
    split <;> rfl
theorem aM_of {md : aMd} {vs : List Value} {h : aH} {Q : Option Value → aH → Prop} (hy : plainFor md.1 = true) (hv : (lg_sl vs).length ≤ md.2.2.1) (k : aX md aE0 h 0 (lv_args 0 vs) [] md.2.2.2.2.cells md.2.2.2.2.slots Q) : aM md vs h Q := by
  intro l G ad sz
  refine va_MetF (cc := md.2.1) (maxL := md.2.2.1) (ret := md.2.2.2.1) hy rfl ?_
  intro p e s m args below meth c s₁ B hml hvv
  obtain ⟨rfl, hsz, hP, hD0, hK⟩ := hvv
  have hx := B.exec
  have hb := B.bytes
  have hr := B.returns
  have hts := atoms_spec (ws := Cond.code md.1 md.2.1 md.2.2.1 md.2.2.2.1 :: aTb) B.pre
  have hown : s.vm.findClass md.1.cls = some m.cls := findClass_of_methodNamed B.named
  have hlocks := B.notSynchronized
  have hin : meth.name = md.1.name := (name_of_methodNamed B.named B.method).1
  subst hsz
  have hD := hD0.self (sz := s.heap.size)
  have hl := lv_entry (vs.map (aV ad)) (n := md.2.2.1) (by rw [aSl_len]; exact hv)
  rw [lg_entry_eq]
  rw [aLv_args] at hl
  refine k p l e s m _ below meth c G ad (va_A (aWs G ad h) s.heap.size) s.heap [] 0 0 _ _ ⟨hx, hb, hml, hown, fun w hw => hts w (List.mem_cons_of_mem _ hw), fun z => hin.trans z, hK⟩ ⟨hP, hD, va_S.rf⟩ hl (Nat.le_of_eq (Nat.zero_add _)) (Nat.le_of_eq (Nat.zero_add _)) ?_
  intro ad' h' r H locs cells slots pc ls hLe hR hc1 hc2 hq hret
  refine W.widen (k := md.2.2.2.2.cells) (n := md.2.2.2.2.slots) hc1 hc2 ?_
  have hQ : ∀ t : State, t.heap = H → s.WarmedH t.vm → aMQ G ad h s.heap.size Q (vs.map (aV ad)).toArray s (.returned (r.map (aV ad'))) t := fun t ht _ =>
    ⟨⟨r, ad', h', rfl, hLe, hq, by rw [ht]; exact hR.1, hR.2.1⟩, hR.2.2.F ht⟩
  cases r with
  | none => exact W.vret hx hb (hr.trans hret.2) hQ hR.2.2.2.2 hret.1
  | some v =>
    cases v with
    | int x =>
      obtain ⟨hd, hw | ⟨hw, hx01⟩⟩ := hret
      · exact W.iret (v := x) hx hb (hr.trans hw) hQ hR.2.2.2.2 hd
      · exact W.zret (v := x) (ty := .boolean) hx hb (hr.trans hw) (by rcases hx01 with rfl | rfl <;> rfl) hQ hR.2.2.2.2 hd
    | long x => exact W.lret (v := x) hx hb (hr.trans hret.2) hQ hR.2.2.2.2 hret.1
    | _ => exact hret.elim
theorem aM_mono {md : aMd} {vs : List Value} {h : aH} {Q Q' : Option Value → aH → Prop} (k : aM md vs h Q) (i : ∀ r h', Q r h' → Q' r h') : aM md vs h Q' := by
  intro l G ad sz
  have hk := k l G ad sz
  unfold Met at hk ⊢
  intro p e ha hc hkk s m args below hf happ hP hT
  obtain ⟨t, o, a1, b1, b2, ⟨⟨r, ad', h', e1, e2, e3, e4⟩, hF⟩, b4⟩ := hk p e ha hc hkk s m args below hf happ hP hT
  exact ⟨t, o, a1, b1, b2, ⟨⟨r, ad', h', e1, e2, i r h' e3, e4⟩, hF⟩, b4⟩
theorem aNs_warm {s U : State} (hW : s.WarmedH U.vm) (h : ∀ w ∈ aNs, va_Nw w s) : ∀ w ∈ aNs, va_Nw w U := by
  intro w hw
  have h1 := h w hw
  unfold aNs at hw
  simp only [List.mem_cons, List.not_mem_nil, or_false] at hw
  rcases hw with rfl | rfl | rfl | rfl | rfl | rfl | rfl | rfl | rfl | rfl | rfl <;> first | exact va_Nw.warmF hW h1 | exact va_Nw.warmM hW h1
theorem aAO_alike {s U : State} (hvm : s.vm.Alike U.vm) (h : va_Nw (.arrayOver (.array .long)) s) : va_Nw (.arrayOver (.array .long)) U :=
  (show (Cond.arrayOver (.array .long)).before #[] (s.setVm U.vm) = true by rw [Cond.arrayOver_setVmC hvm]; exact h)
/-- what a callee's start knows, out of the caller's -/
theorem aK_call {G : aG} {E : aE} {ad : Nat → Nat} {h : aH} {A : Nat → Prop} {s U : State} {H : Heap} {locs : List Loc} (hE : ∀ (i : Nat) (q : Nat × (Nat → Int32)), aE0[i]? = some q → E[i]? = some q) (hK : aK G E ad A s) (hR : aR G ad h A s H locs) (hU : U.heap = H) (hW : s.WarmedH U.vm) : aK G aE0 ad (va_A (aWs G ad h) H.size) U := by
  obtain ⟨k1, k2, k3, k4, k5, k6, k7, k8⟩ := hK
  have hAA : ∀ q, va_A (aWs G ad h) H.size q → A q := by
    intro q hq
    rcases hq with ⟨k, e, hq⟩ | hq
    · exact hR.2.1.2 k (q, e) hq
    · exact k2 q (Nat.le_trans hR.2.2.1 hq)
  have hkeep : ∀ a : Nat, a < s.heap.size → ¬ A a → H[a]? = s.heap[a]? := hR.2.2.2.1
  refine ⟨k1.moved hW.alike, fun q hq => Or.inr (by rw [← hU]; exact hq), Nat.le_of_ble_eq_true rfl, fun i q hq => ?_, fun i nm hi => ?_, aNs_warm hW k6, k7.moved hW.alike, aAO_alike hW.alike k8⟩
  · rw [hU]
    exact ((k4 i q (hE i q hq)).kept hkeep |>.moved hW.alike).narrow hAA
  · rw [hU]
    exact ((k5 i nm hi).kept hkeep |>.moved hW.alike).narrow hAA
theorem aMP_blind {G : aG} {ad : Nat → Nat} {h : aH} {sz : Nat} {vs : List Value} : FrameBlind (aMP G ad h sz vs) := by
  intro a U g mk hq
  obtain ⟨q0, q1, q2, q3, k1, k2, k3, k4, k5, k6, k7, k8⟩ := hq
  exact ⟨q0, q1, q2, q3, va_K.moved (u := U) (U := U.calling g mk a) (Vm.Alike.refl U.vm) k1, k2, k3, fun i q hi => va_T.moved (u := U) (U := U.calling g mk a) (Vm.Alike.refl U.vm) (k4 i q hi), fun i nm hi => va_Z.moved (u := U) (U := U.calling g mk a) (Vm.Alike.refl U.vm) (k5 i nm hi), fun w hw => va_tabs (show w.onTables = true by
    unfold aNs at hw
    simp only [List.mem_cons, List.not_mem_nil, or_false] at hw
    rcases hw with rfl | rfl | rfl | rfl | rfl | rfl | rfl | rfl | rfl | rfl | rfl <;> rfl) (rfl : U.vm = (U.calling g mk a).vm) (k6 w hw), va_AO.moved (u := U) (U := U.calling g mk a) (Vm.Alike.refl U.vm) k7, k8⟩
theorem aMP_at {G : aG} {E : aE} {ad : Nat → Nat} {h : aH} {A : Nat → Prop} {s U : State} {H : Heap} {locs : List Loc} {vs : List Value} (hE : ∀ (i : Nat) (q : Nat × (Nat → Int32)), aE0[i]? = some q → E[i]? = some q) (hK : aK G E ad A s) (hR : aR G ad h A s H locs) (hU : U.heap = H) (hW : s.WarmedH U.vm) : aMP G ad h H.size vs (vs.map (aV ad)).toArray U :=
  ⟨rfl, by rw [hU], by rw [hU]; exact hR.1, hR.2.1.weaken (fun _ _ _ _ => trivial), aK_call hE hK hR hU hW⟩
/-- behind a call -/
theorem aCall {p : Program} {l : Launch} {e : Env} {R : Room} {s : State} {m : MethodId} {args : Array Value} {below : List Frame} {meth : Method} {c : Code} {H : Heap} {locs : List Loc} {cells slots mc ms : Nat} {Qm : State → Prop} {pc : Nat} {ls : Array Slot} {rest st0 : List Value} {a : Array Value} {G : aG} {ad : Nat → Nat} {h : aH} {A : Nat → Prop} {Q' : Option Value → aH → Prop}
    (hr : va_Run p l e R s m args below meth c H locs cells slots mc ms (F0 m pc ls st0) rest (aMQ G ad h H.size Q' a) (va_A (aWs G ad h) H.size)) (hA : ∀ q : Nat, s.heap.size ≤ q → A q) (hR : aR G ad h A s H locs)
    (kk : ∀ (r : Option Value) (ad' : Nat → Nat) (h' : aH) (H1 : Heap) (locs1 : List Loc), aLe h ad h' ad' → Q' r h' → aR G ad' h' A s H1 locs1 → W p l e R s m args below meth c H1 locs1 (cells + mc) (slots + ms) Qm (F0 m (pc + 3) ls ((r.map (aV ad')).toList ++ rest))) : W p l e R s m args below meth c H locs cells slots Qm (F0 m pc ls st0) := by
  have hAA : ∀ q, va_A (aWs G ad h) H.size q → A q := by
    intro q hq
    rcases hq with ⟨k, e, hq⟩ | hq
    · exact hR.2.1.2 k (q, e) hq
    · exact hA q (Nat.le_trans hR.2.2.1 hq)
  have hS := hR.2.2
  intro T hT X
  obtain ⟨v, st₀, t, T', L, h0, X', hL, e1, e2, ⟨⟨r, ad', h', hv, hLe, hq, hP', hD'⟩, hz, hk⟩, st⟩ := hr T hT X
  cases hv
  rw [h0] at hz hk
  obtain ⟨t2, a1, b1⟩ := kk r ad' h' T'.heap (locs ++ L) hLe hq ⟨by rw [e1]; exact hP', hD'.weaken (fun k q _ hq => hAA q.1 hq), Nat.le_trans hS.1 (by rw [e1]; exact hz), fun q g1 g2 => by rw [e1, hk q (Nat.lt_of_lt_of_le g1 hS.1) (fun z => g2 (hAA q z))]; exact hS.2.1 q g1 g2, fun q hq => by
      rcases List.mem_append.mp hq with g | g
      · exact hS.2.2 q g
      · exact hAA _ (hL q g)⟩ T' rfl X'
  exact ⟨t2, st t2 a1, b1⟩
/-- the words of a method -/
def aWm (md : aMd) : Prop := Cond.code md.1 md.2.1 md.2.2.1 md.2.2.2.1 ∈ aTb ∧ Cond.initialized md.1.cls ∈ aTb ∧ md.1.cls ≠ "java/lang/invoke/MethodHandle" ∧ md.1.cls ≠ "java/lang/invoke/VarHandle"
def aRm (md md' : aMd) : Prop := md'.2.2.2.2.frames + 1 ≤ md.2.2.2.2.frames ∧ 8 + (md'.2.2.1 + 11) + md'.2.2.2.2.locals ≤ md.2.2.2.2.locals
def aPn (md : aMd) (n : Nat) : Prop := (parseMethodDescriptor md.1.desc).map (fun d => d.parameters.length) = some n
theorem aTb_good {w : Cond} (h : w ∈ aTb) : goodWord w = true := (List.mem_filter.mp h).2
theorem aGood {md : aMd} (h : aWm md) : GoodIn aTb (Cond.code md.1 md.2.1 md.2.2.1 md.2.2.2.1 :: aTb) := by
  intro w hw
  rcases List.mem_cons.mp hw with rfl | hw
  · exact ⟨h.1, good_of_word (aTb_good h.1)⟩
  · exact ⟨hw, good_of_word (aTb_good hw)⟩
theorem aCat (ad : Nat → Nat) (st : List Value) : ((st.map (aV ad)).map fun v => v.category) = st.map fun v => v.category := by
  rw [List.map_map]
  exact List.map_congr_left (fun v _ => aV_cat ad v)
theorem aLv_keep {ad ad' : Nat → Nat} {lv : List (Nat × Value)} (h : ∀ q ∈ lv, aV ad' q.2 = aV ad q.2) : aLv ad' lv = aLv ad lv := List.map_congr_left (fun q hq => by rw [h q hq])
theorem aK_ad {G : aG} {E : aE} {ad ad' : Nat → Nat} {A : Nat → Prop} {s : State} (h : ∀ k, k < 8 → ad' k = ad k) (hK : aK G E ad A s) : aK G E ad' A s := by
  obtain ⟨k1, k2, k3, k4, k5, k6⟩ := hK
  refine ⟨k1, k2, k3, fun i q hq => ?_, fun i nm hi => ?_, k6⟩
  · have := (List.getElem?_eq_some_iff.mp hq).1
    rw [h i (by omega)]
    exact k4 i q hq
  · have := (List.getElem?_eq_some_iff.mp hi).1
    have h7 : aSt.length = 7 := rfl
    rw [h i (by omega)]
    exact k5 i nm hi
section ACALL
variable {md md' : aMd} {E : aE} {h : aH} {pc : Nat} {lv : List (Nat × Value)} {st stk : List Value} {bc bs : Nat} {Q Q' : Option Value → aH → Prop}
/-- a call that makes no cell -/
theorem aX_callV {idx q ci z n : Nat} {As : List Value} {C : String} {T : u_T} {N : Nat} (hd : decode md.2.1 pc = .ok (.invokevirtual idx, 3)) (hw : aWm md') (hl1 : Cond.methodLink md.1.cls idx md'.1 ∈ aTb) (hl2 : Cond.instanceMethod md'.1 ∈ aTb) (hl3 : Cond.selects md'.1.cls md'.1 md'.1 ∈ aTb) (hc : vwCl[ci]? = some (C, T, N)) (hcn : C = md'.1.cls) (hpn : aPn md' n) (hrm : aRm md md') (hs : aSh h q = some (10 + ci, z)) (hn : As.length = n) (hstk : stk = As.reverse ++ .ref q :: st) (hcat : (st.map fun v => v.category).sum ≤ 8)
    (hE : ∀ (i : Nat) (q : Nat × (Nat → Int32)), aE0[i]? = some q → E[i]? = some q) (hM : aM md' (.ref q :: As) h Q') (h0 : md'.2.2.2.2.cells = 0 ∧ md'.2.2.2.2.slots = 0) (k : ∀ r h', Q' r h' → h'.1.length = h.1.length ∧ aX md E h' (pc + 3) lv (r.toList ++ st) bc bs Q) : aX md E h pc lv stk bc bs Q := by
  subst hstk
  intro p l e s m args below meth c G ad A H locs cells slots ls Qm CC hR hl h1 h2 F
  have hts := CC.2.2.2.2.1
  have hK := CC.2.2.2.2.2.2
  refine aCall (rest := st.map (aV ad)) (Q' := Q') (va_runV (y := md'.1) (cc := md.2.1) (nL := md.2.2.1) (own := md.1.cls) (C := md'.1.cls) (b := ad q) (As := As.map (aV ad)) (rest := st.map (aV ad)) (index := idx) ⟨CC.1, CC.2.1, CC.2.2.1, CC.2.2.2.1, hts⟩ (hM l G ad H.size) ⟨callB_of n hts (aGood hw) rfl rfl rfl (hts _ hw.2.1) (hts _ hl1) ⟨hw.2.2.1, hw.2.2.2, hpn⟩ hrm, hts _ hl2, hts _ hl3⟩ ⟨aMP_blind, ?_, fun U hU hW => aMP_at hE hK hR hU hW⟩ rfl (by rw [List.length_map]; exact hn) hl.1 ?_ (lv_room (by rw [aCat]; exact hcat)) hd ⟨by omega, by omega⟩) hK.2.1 hR ?_
  · have := va_recv (D := G.1) (ci := ci) (q0 := q - 8) hK.1 hR.1 hc ((aWs_get hs).trans (by rw [aEnt_obj]))
    rw [show (C, T, N).1 = md'.1.cls from hcn] at this
    exact this
  · rw [List.map_append, List.map_reverse]
    rfl
  · intro r ad' h' H1 locs1 hLe hq hR'
    obtain ⟨k1, k2⟩ := k r h' hq
    have ha : ad' = ad := hLe.2.2 k1
    subst ha
    have e := k2 p l e s m args below meth c G ad' A H1 locs1 (cells + md'.2.2.2.2.cells) (slots + md'.2.2.2.2.slots) ls Qm CC hR' hl (by omega) (by omega) (F.tr hLe)
    rw [List.map_append] at e
    cases r <;> exact e
theorem aX_callS {idx n : Nat} {As : List Value} (hd : decode md.2.1 pc = .ok (.invokestatic idx, 3)) (hw : aWm md') (hl1 : Cond.methodLink md.1.cls idx md'.1 ∈ aTb) (hl2 : Cond.static md'.1 ∈ aTb) (hpn : aPn md' n) (hrm : aRm md md') (hn : As.length = n) (hstk : stk = As.reverse ++ st) (hcat : (st.map fun v => v.category).sum ≤ 8)
    (hE : ∀ (i : Nat) (q : Nat × (Nat → Int32)), aE0[i]? = some q → E[i]? = some q) (hM : aM md' As h Q') (h0 : md'.2.2.2.2.cells = 0 ∧ md'.2.2.2.2.slots = 0) (k : ∀ r h', Q' r h' → h'.1.length = h.1.length ∧ aX md E h' (pc + 3) lv (r.toList ++ st) bc bs Q) : aX md E h pc lv stk bc bs Q := by
  subst hstk
  intro p l e s m args below meth c G ad A H locs cells slots ls Qm CC hR hl h1 h2 F
  have hts := CC.2.2.2.2.1
  have hK := CC.2.2.2.2.2.2
  refine aCall (rest := st.map (aV ad)) (Q' := Q') (va_runS (y := md'.1) (cc := md.2.1) (nL := md.2.2.1) (own := md.1.cls) (As := As.map (aV ad)) (rest := st.map (aV ad)) (index := idx) ⟨CC.1, CC.2.1, CC.2.2.1, CC.2.2.2.1, hts⟩ (hM l G ad H.size) ⟨callB_of n hts (aGood hw) rfl rfl rfl (hts _ hw.2.1) (hts _ hl1) ⟨hw.2.2.1, hw.2.2.2, hpn⟩ hrm, hts _ hl2⟩ ⟨aMP_blind, fun U hU hW => aMP_at hE hK hR hU hW⟩ rfl (by rw [List.length_map]; exact hn) hl.1 ?_ (lv_room (by rw [aCat]; exact hcat)) hd ⟨by omega, by omega⟩) hK.2.1 hR ?_
  · rw [List.map_append, List.map_reverse]
  · intro r ad' h' H1 locs1 hLe hq hR'
    obtain ⟨k1, k2⟩ := k r h' hq
    have ha : ad' = ad := hLe.2.2 k1
    subst ha
    have e := k2 p l e s m args below meth c G ad' A H1 locs1 (cells + md'.2.2.2.2.cells) (slots + md'.2.2.2.2.slots) ls Qm CC hR' hl (by omega) (by omega) (F.tr hLe)
    rw [List.map_append] at e
    cases r <;> exact e
end ACALL
end
section
/-! NEW CELLS -/
def aOkV (n : Nat) (v : Value) : Bool := match v with
  | .ref k => decide (k < n)
  | _ => true
def aOkL (n : Nat) (lv : List (Nat × Value)) (st : List Value) : Bool := lv.all (fun q => aOkV n q.2) && st.all (aOkV n)
def aWf (h : aH) : Prop := ∀ k i r, h.2.2.2 k i = some r → r < 8 + h.1.length
/-- one more cell, its places 0 -/
def aNew (h : aH) (sn : Nat × Nat) : aH := (h.1 ++ [sn], aUr h.2.1 (8 + h.1.length) (fun _ => 0), aUr h.2.2.1 (8 + h.1.length) (fun _ => 0), aUr h.2.2.2 (8 + h.1.length) (fun _ => none))
def aAd (ad : Nat → Nat) (n q : Nat) : Nat → Nat := fun k => if k = n then q else ad k
theorem aAd_lt {ad : Nat → Nat} {n q k : Nat} (h : k < n) : aAd ad n q k = ad k := if_neg (by omega)
theorem aAd_s {ad : Nat → Nat} {n q : Nat} : aAd ad n q n = q := if_pos rfl
theorem aOkV_keep {ad : Nat → Nat} {n q : Nat} {v : Value} (h : aOkV n v = true) : aV (aAd ad n q) v = aV ad v := by
  cases v with
  | ref k => exact congrArg Value.ref (aAd_lt (of_decide_eq_true h))
  | _ => rfl
theorem aWf_new {h : aH} {sn : Nat × Nat} (hw : aWf h) : aWf (aNew h sn) := by
  intro k i r hr
  have hr : aUr h.2.2.2 (8 + h.1.length) (fun _ => none) k i = some r := hr
  have hl : (aNew h sn).1.length = h.1.length + 1 := by unfold aNew; simp
  by_cases e : k = 8 + h.1.length
  · subst e
    rw [aUr_s] at hr
    cases hr
  · rw [aUr_o e] at hr
    have := hw k i r hr
    omega
theorem aEnt_new {G : aG} {ad : Nat → Nat} {h : aH} {sn : Nat × Nat} {q k : Nat} (hw : aWf h) (hk : k < 8 + h.1.length) (z : Nat × Nat) : aEnt G (aAd ad (8 + h.1.length) q) (aNew h sn) k z = aEnt G ad h k z := by
  have hne : k ≠ 8 + h.1.length := by omega
  have e1 : (aNew h sn).2.1 k = h.2.1 k := aUr_o hne
  have e2 : (aNew h sn).2.2.1 k = h.2.2.1 k := aUr_o hne
  have e3 : (aNew h sn).2.2.2 k = h.2.2.2 k := aUr_o hne
  have e4 : ∀ i, (h.2.2.2 k i).map (aAd ad (8 + h.1.length) q) = (h.2.2.2 k i).map ad := fun i => by
    cases hr : h.2.2.2 k i with
    | none => rfl
    | some r => exact congrArg some (aAd_lt (hw k i r hr))
  have e5 : ∀ t f, aFv (aAd ad (8 + h.1.length) q) (aNew h sn) t k f = aFv ad h t k f := fun t f => by
    cases t <;> simp only [aFv, e1, e2, e3, e4]
  unfold aEnt aFs
  simp only [e1, e2, e3, e4, e5]
theorem aWs_new {G : aG} {ad : Nat → Nat} {h : aH} {sn : Nat × Nat} {q : Nat} (hw : aWf h) : aWs G (aAd ad (8 + h.1.length) q) (aNew h sn) = aWs G ad h ++ [(q, aEnt G (aAd ad (8 + h.1.length) q) (aNew h sn) (8 + h.1.length) sn)] := by
  have hl : (aNew h sn).1.length = h.1.length + 1 := by unfold aNew; simp
  unfold aWs
  rw [hl, List.range_succ, List.map_append]
  congr 1
  · apply List.map_congr_left
    intro k hk
    have hk := List.mem_range.mp hk
    have e : (aNew h sn).1.getD k (0, 0) = h.1.getD k (0, 0) := by
      show (h.1 ++ [sn]).getD k (0, 0) = _
      rw [List.getD_eq_getElem?_getD, List.getD_eq_getElem?_getD, List.getElem?_append_left hk]
    rw [e, aAd_lt (by omega), aEnt_new hw (by omega)]
  · have e : (aNew h sn).1.getD h.1.length (0, 0) = sn := by
      show (h.1 ++ [sn]).getD h.1.length (0, 0) = _
      rw [List.getD_eq_getElem?_getD, List.getElem?_append_right (Nat.le_refl _)]
      simp
    have e2 : h.1.length + 8 = 8 + h.1.length := by omega
    simp only [List.map_cons, List.map_nil, e, e2, aAd_s]
theorem aLe_new {h : aH} {ad : Nat → Nat} {sn : Nat × Nat} {q : Nat} : aLe h ad (aNew h sn) (aAd ad (8 + h.1.length) q) := by
  have hl : (aNew h sn).1.length = h.1.length + 1 := by unfold aNew; simp
  exact ⟨by omega, fun k hk => aAd_lt hk, fun e => by omega⟩
theorem aLv_wf {ad : Nat → Nat} {n q : Nat} {lv : List (Nat × Value)} {st : List Value} (h : aOkL n lv st = true) : aLv (aAd ad n q) lv = aLv ad lv ∧ st.map (aV (aAd ad n q)) = st.map (aV ad) := by
  unfold aOkL at h
  rw [Bool.and_eq_true, List.all_eq_true, List.all_eq_true] at h
  exact ⟨aLv_keep (fun x hx => aOkV_keep (h.1 x hx)), List.map_congr_left (fun v hv => aOkV_keep (h.2 v hv))⟩
theorem aCtx_ad {md : aMd} {E : aE} {G : aG} {ad ad' : Nat → Nat} {A : Nat → Prop} {p : Program} {s : State} {m : MethodId} {args : Array Value} {meth : Method} {c : Code} (C : aCtx md E G ad A p s m args meth c) (h : ∀ k, k < 8 → ad' k = ad k) : aCtx md E G ad' A p s m args meth c :=
  ⟨C.1, C.2.1, C.2.2.1, C.2.2.2.1, C.2.2.2.2.1, C.2.2.2.2.2.1, aK_ad h C.2.2.2.2.2.2⟩
theorem aCid {G : aG} {s : State} {tys : List (ClassId × FieldType)} {D : va_G} {cl : List vw_C} {k kd : Nat} {ty : FieldType} {cA : ClassId} (h1 : va_K D cl tys s) (h2 : tys[k]? = some (cA, ty)) (h3 : va_K G.1 vwCl (aTys G) s) (h4 : (aTys G)[kd]? = some (G.2 kd, ty)) : cA = G.2 kd := by
  have a := (h1.2 k _ h2).2
  have b := (h3.2 kd _ h4).2
  cases ty with
  | object C =>
    obtain ⟨_, _, _, _, _, a4⟩ := a
    obtain ⟨_, _, _, _, _, b4⟩ := b
    exact Option.some.inj (a4.symm.trans b4)
  | _ => exact Option.some.inj (Eq.trans (Eq.symm (show s.vm.findClass _ = some cA from a)) (show s.vm.findClass _ = some (G.2 kd) from b))
section ANEW
variable {md : aMd} {E : aE} {h : aH} {pc : Nat} {lv : List (Nat × Value)} {st : List Value} {bc bs : Nat} {Q : Option Value → aH → Prop}
theorem aX_newa {at' : ArrayType} {kd : Nat} {n : Int32} {N : Nat} (hd : decode md.2.1 pc = .ok (.newarray at', 2)) (hk : (at' = .int ∧ kd = 0) ∨ (at' = .boolean ∧ kd = 1) ∨ (at' = .byte ∧ kd = 2) ∨ (at' = .long ∧ kd = 3)) (hw : Cond.arrayClass (newarray.typeOf at') ∈ aTb) (hn : ¬ n < 0) (hN : n.toNatClampNeg = N) (hb : N ≤ 65536) (hwf : aWf h) (hok : aOkL (8 + h.1.length) lv st = true) (hbc : 1 ≤ bc) (hbs : N ≤ bs)
    (k : aX md E (aNew h (kd, N)) (pc + 2) lv (.ref (8 + h.1.length) :: st) (bc - 1) (bs - N) Q) : aX md E h pc lv (.int n :: st) bc bs Q := by
  intro p l e s m args below meth c G ad A H locs cells slots ls Qm C hR hl h1 h2 F
  have hK := C.2.2.2.2.2.2
  have key : ∀ (ty : FieldType) (a0 : vp_A), newarray.typeOf at' = ty → (aTys G)[kd]? = some (G.2 kd, ty) → (∀ cA : ClassId, vp_cell cA a0 = arrV cA N (fun _ => defaultValue ty)) → N * componentBytes ty ≤ 536870912 → (∀ ad', aEnt G ad' (aNew h (kd, N)) (8 + h.1.length) (kd, N) = .inl (G.2 kd, a0)) → W p l e md.2.2.2.2 s m args below meth c H locs cells slots Qm (F0 m pc ls (.int n :: st.map (aV ad))) := by
    intro ty a0 hty hT ha hbt hEn
    refine va_newa (D := G.1) C.1 C.2.1 (C.2.2.2.2.1 _ hw) hty hK.1 hR.1 hR.2.1 hR.2.2 hK.2.1 ha hn hN hbt (by omega) (by omega) hd (fun q cA H1 b1 b2 b3 b4 => ?_)
    have hc : cA = G.2 kd := aCid b1 (show (aTys G ++ [(cA, ty)])[6]? = some (cA, ty) from rfl) hK.1 hT
    subst hc
    obtain ⟨w1, w2⟩ := aLv_wf (ad := ad) (q := q) hok
    have hR' : aR G (aAd ad (8 + h.1.length) q) (aNew h (kd, N)) A s H1 locs := by
      unfold aR
      rw [aWs_new hwf, hEn]
      exact ⟨b2, b3, b4⟩
    have e := k p l e s m args below meth c G (aAd ad (8 + h.1.length) q) A H1 locs (cells + 1) (slots + N) ls Qm (aCtx_ad C (fun k hk => aAd_lt (by omega))) hR' (by rw [w1]; exact hl) (by omega) (by omega) (F.tr aLe_new)
    rw [List.map_cons, w2] at e
    have e9 : aV (aAd ad (8 + h.1.length) q) (.ref (8 + h.1.length)) = .ref q := congrArg Value.ref aAd_s
    rw [e9] at e
    exact e
  have u1 : (aNew h (kd, N)).2.1 (8 + h.1.length) = fun _ => 0 := aUr_s
  have u2 : (aNew h (kd, N)).2.2.1 (8 + h.1.length) = fun _ => 0 := aUr_s
  rcases hk with ⟨rfl, rfl⟩ | ⟨rfl, rfl⟩ | ⟨rfl, rfl⟩ | ⟨rfl, rfl⟩
  · exact key .int (N, .inl (fun _ => 0)) rfl rfl (fun _ => rfl) (by show N * 4 ≤ _; omega) (fun ad' => by show Sum.inl (G.2 0, N, Sum.inl _) = _; rw [u1])
  · exact key .boolean (N, .inl (fun _ => 0)) rfl rfl (fun _ => rfl) (by show N * 1 ≤ _; omega) (fun ad' => by show Sum.inl (G.2 1, N, Sum.inl _) = _; rw [u1])
  · exact key .byte (N, .inl (fun _ => 0)) rfl rfl (fun _ => rfl) (by show N * 1 ≤ _; omega) (fun ad' => by show Sum.inl (G.2 2, N, Sum.inl _) = _; rw [u1])
  · exact key .long (N, .inr (.inl (fun _ => 0))) rfl rfl (fun _ => rfl) (by show N * 8 ≤ _; omega) (fun ad' => by show Sum.inl (G.2 3, N, Sum.inr (Sum.inl _)) = _; rw [u2])
/-- a class whose objects are made -/
def aLkN (own : String) (idx ci : Nat) : Prop := ∃ (C : String) (T : u_T) (N : Nat), vwCl[ci]? = some (C, T, N) ∧ (∀ w ∈ u_ws C T N, w ∈ aTb) ∧ Cond.classLink own idx C ∈ aTb ∧ Cond.instantiable C N ∈ aTb ∧ Cond.initialized C ∈ aTb ∧ (∀ k, k < N → parseFieldDescriptor (T k).2.2.1 = some (aT ci k)) ∧ (∀ k, k < N → aT ci k = .int ∨ aT ci k = .boolean ∨ aT ci k = .long ∨ (∃ C, aT ci k = .object C) ∨ ∃ t, aT ci k = .array t)
theorem aX_new {idx ci : Nat} (hd : decode md.2.1 pc = .ok (.new idx, 3)) (hL : aLkN md.1.cls idx ci) (hwf : aWf h) (hok : aOkL (8 + h.1.length) lv st = true) (hbc : 1 ≤ bc) (hbs : aN ci ≤ bs)
    (k : aX md E (aNew h (10 + ci, 0)) (pc + 3) lv (.ref (8 + h.1.length) :: st) (bc - 1) (bs - aN ci) Q) : aX md E h pc lv st bc bs Q := by
  intro p l e s m args below meth c G ad A H locs cells slots ls Qm C hR hl h1 h2 F
  have hK := C.2.2.2.2.2.2
  obtain ⟨Cn, T, N, g1, g2, g3, g4, g5, g6, g7⟩ := hL
  have hN := aN_of g1
  rw [hN] at hbs k
  have u1 : (aNew h (10 + ci, 0)).2.1 (8 + h.1.length) = fun _ => 0 := aUr_s
  have u2 : (aNew h (10 + ci, 0)).2.2.1 (8 + h.1.length) = fun _ => 0 := aUr_s
  have u3 : (aNew h (10 + ci, 0)).2.2.2 (8 + h.1.length) = fun _ => none := aUr_s
  have hfs : ∀ j, j < N → defaultValue (aT ci j) = vp_V (aFs ad (aNew h (10 + ci, 0)) ci (8 + h.1.length)) j := by
    intro j hj
    unfold vp_V
    rw [List.getD_eq_getElem?_getD, aFs_get (by omega), Option.getD_some, ← aFv_val]
    rcases g7 j hj with e | e | e | ⟨C, e⟩ | ⟨t, e⟩ <;> rw [e] <;> simp only [aFv, u1, u2, u3] <;> rfl
  have hfa : ∀ ad', aFs ad' (aNew h (10 + ci, 0)) ci (8 + h.1.length) = aFs ad (aNew h (10 + ci, 0)) ci (8 + h.1.length) := by
    intro ad'
    unfold aFs
    apply List.map_congr_left
    intro f _
    cases aT ci f <;> simp only [aFv, u1, u2, u3] <;> rfl
  refine va_new (D := G.1) (ci := ci) (C := Cn) (T := T) (N := N) C.1 C.2.1 C.2.2.2.2.1 g2 (aT ci) g6 C.2.2.2.1 (C.2.2.2.2.1 _ g3) (C.2.2.2.2.1 _ g4) (C.2.2.2.2.1 _ g5) hK.1 hR.1 hR.2.1 hR.2.2 hK.2.1 g1 hfs (by omega) (by omega) hd (fun q H1 b2 b3 b4 => ?_)
  obtain ⟨w1, w2⟩ := aLv_wf (ad := ad) (q := q) hok
  have hR' : aR G (aAd ad (8 + h.1.length) q) (aNew h (10 + ci, 0)) A s H1 locs := by
    unfold aR
    rw [aWs_new hwf, aEnt_obj, hfa]
    exact ⟨b2, b3, b4⟩
  have e := k p l e s m args below meth c G (aAd ad (8 + h.1.length) q) A H1 locs (cells + 1) (slots + N) ls Qm (aCtx_ad C (fun k hk => aAd_lt (by omega))) hR' (by rw [w1]; exact hl) (by omega) (by omega) (F.tr aLe_new)
  rw [List.map_cons, w2] at e
  have e9 : aV (aAd ad (8 + h.1.length) q) (.ref (8 + h.1.length)) = .ref q := congrArg Value.ref aAd_s
  rw [e9] at e
  exact e
theorem aX_newq {idx : Nat} {n : Int32} {N : Nat} (hd : decode md.2.1 pc = .ok (.anewarray idx, 3)) (hw : Cond.classLink md.1.cls idx "JustMoves$Whole" ∈ aTb) (hn : ¬ n < 0) (hN : n.toNatClampNeg = N) (hb : N ≤ 65536) (hwf : aWf h) (hok : aOkL (8 + h.1.length) lv st = true) (hbc : 1 ≤ bc) (hbs : N ≤ bs)
    (k : aX md E (aNew h (4, N)) (pc + 3) lv (.ref (8 + h.1.length) :: st) (bc - 1) (bs - N) Q) : aX md E h pc lv (.int n :: st) bc bs Q := by
  intro p l e s m args below meth c G ad A H locs cells slots ls Qm C hR hl h1 h2 F
  have hK := C.2.2.2.2.2.2
  have u3 : (aNew h (4, N)).2.2.2 (8 + h.1.length) = fun _ => none := aUr_s
  refine va_newq (D := G.1) C.1 C.2.1 C.2.2.2.1 (C.2.2.2.2.1 _ hw) hK.2.2.2.2.2.2.1 hK.1 hR.1 hR.2.1 hR.2.2 hK.2.1 hn hN (by omega) (by omega) (by omega) hd (fun q cA H1 b1 b2 b3 b4 => ?_)
  have hc : cA = G.2 4 := aCid b1 (show (aTys G ++ [(cA, .object "JustMoves$Whole")])[6]? = some (cA, .object "JustMoves$Whole") from rfl) hK.1 rfl
  subst hc
  obtain ⟨w1, w2⟩ := aLv_wf (ad := ad) (q := q) hok
  have hR' : aR G (aAd ad (8 + h.1.length) q) (aNew h (4, N)) A s H1 locs := by
    unfold aR
    rw [aWs_new hwf]
    have : aEnt G (aAd ad (8 + h.1.length) q) (aNew h (4, N)) (8 + h.1.length) (4, N) = .inl (G.2 4, N, .inr (.inr (.inr (.inr (fun _ => none))))) := by
      show Sum.inl (G.2 4, N, Sum.inr (Sum.inr (Sum.inr (Sum.inr (fun i => ((aNew h (4, N)).2.2.2 (8 + h.1.length) i).map _))))) = _
      rw [u3]
      rfl
    rw [this]
    exact ⟨b2, b3, b4⟩
  have e := k p l e s m args below meth c G (aAd ad (8 + h.1.length) q) A H1 locs (cells + 1) (slots + N) ls Qm (aCtx_ad C (fun k hk => aAd_lt (by omega))) hR' (by rw [w1]; exact hl) (by omega) (by omega) (F.tr aLe_new)
  rw [List.map_cons, w2] at e
  have e9 : aV (aAd ad (8 + h.1.length) q) (.ref (8 + h.1.length)) = .ref q := congrArg Value.ref aAd_s
  rw [e9] at e
  exact e
/-- an object is laid into an array of Wholes -/
theorem aX_aast {q n r z : Nat} {i : Int32} (hd : decode md.2.1 pc = .ok (.aastore, 1)) (hs : aSh h q = some (4, n)) (hin : vp_in i n) (hv : aSh h r = some (10 + 9, z)) (k : aX md E (h.1, h.2.1, h.2.2.1, aU h.2.2.2 q i.toNatClampNeg (some r)) (pc + 1) lv st bc bs Q) : aX md E h pc lv (.ref r :: .int i :: .ref q :: st) bc bs Q := by
  intro p l e s m args below meth c G ad A H locs cells slots ls Qm C hR hl h1 h2 F
  exact va_astq (D := G.1) (r := (RX9, TX9, 2)) C.1 C.2.1 C.2.2.2.2.2.2.1 hR.1 hR.2.1 hR.2.2 (q - 8) 4 (r - 8) 9 (aWs_get hs) rfl ((aWs_get hv).trans (by rw [aEnt_obj])) rfl hin hd (fun H1 locs1 a1 a2 a3 => k p l e s m args below meth c G ad A H1 locs1 cells slots ls Qm C (aR_set hs rfl (by
    show Sum.inl (G.2 4, n, Sum.inr (Sum.inr (Sum.inr (Sum.inr (fun j => (aU h.2.2.2 q i.toNatClampNeg (some r) q j).map ad))))) = _
    congr 8
    funext j
    by_cases e : j = i.toNatClampNeg
    · simp [aU, va_up, e]
    · simp [aU, va_up, e]) (fun k9 h9 z9 => by refine aEnt_same ?_ ?_ ?_ z9 <;> first | rfl | exact aU_o h9) a1 a2 a3) hl h1 h2 (F.tr (aLe.rf rfl)))
theorem aX_objInit {idx q : Nat} (hd : decode md.2.1 pc = .ok (.invokespecial idx, 3)) (hw1 : Cond.methodLink md.1.cls idx objectInit ∈ aTb) (hw2 : Cond.instanceMethod objectInit ∈ aTb) (hw3 : Cond.code objectInit ⟨#[0xb1]⟩ 1 none ∈ aTb) (hf : 1 ≤ md.2.2.2.2.frames) (hlo : (st.map fun v => v.category).sum + 12 ≤ md.2.2.2.2.locals) (k : aX md E h (pc + 3) lv st bc bs Q) : aX md E h pc lv (.ref q :: st) bc bs Q := by
  intro p l e s m args below meth c G ad A H locs cells slots ls Qm C hR hl h1 h2 F
  exact W.objInit C.1 C.2.1 C.2.2.2.1 (C.2.2.2.2.1 _ hw1) (C.2.2.2.2.1 _ hw2) (C.2.2.2.2.1 _ hw3) rfl (by rw [C.2.2.1]; exact hl.1) rfl hd hf (by show 2 * 0 + ((st.map (aV ad)).map fun v => v.category).sum + 12 ≤ _; rw [aCat]; omega) (k p l e s m args below meth c G ad A H locs cells slots ls Qm C hR hl h1 h2 F)
end ANEW
end
section
/-! CONSTRUCTORS CALLED; System.arraycopy -/
theorem aOkV_eq {ad ad' : Nat → Nat} {n : Nat} {v : Value} (h : aOkV n v = true) (ha : ∀ k, k < n → ad' k = ad k) : aV ad' v = aV ad v := by
  cases v with
  | ref k => exact congrArg Value.ref (ha k (of_decide_eq_true h))
  | _ => rfl
theorem aOkL_eq {ad ad' : Nat → Nat} {n : Nat} {lv : List (Nat × Value)} {st : List Value} (h : aOkL n lv st = true) (ha : ∀ k, k < n → ad' k = ad k) : aLv ad' lv = aLv ad lv ∧ st.map (aV ad') = st.map (aV ad) := by
  unfold aOkL at h
  rw [Bool.and_eq_true, List.all_eq_true, List.all_eq_true] at h
  exact ⟨aLv_keep (fun x hx => aOkV_eq (h.1 x hx) ha), List.map_congr_left (fun v hv => aOkV_eq (h.2 v hv) ha)⟩
section ACI
variable {md md' : aMd} {E : aE} {h : aH} {pc : Nat} {lv : List (Nat × Value)} {st stk : List Value} {bc bs : Nat} {Q Q' : Option Value → aH → Prop}
theorem aX_callI {idx q n : Nat} {As : List Value} (hd : decode md.2.1 pc = .ok (.invokespecial idx, 3)) (hw : aWm md') (hl1 : Cond.methodLink md.1.cls idx md'.1 ∈ aTb ∨ Cond.methodLinkNest md.1.cls idx md'.1 "JustMoves" ∈ aNs) (hl2 : Cond.instanceMethod md'.1 ∈ aTb) (hnm : md'.1.name = "<init>") (hret : md'.2.2.2.1 = none) (hpn : aPn md' n) (hrm : aRm md md') (hn : As.length = n) (hstk : stk = As.reverse ++ .ref q :: st) (hcat : (st.map fun v => v.category).sum ≤ 8)
    (hE : ∀ (i : Nat) (q : Nat × (Nat → Int32)), aE0[i]? = some q → E[i]? = some q) (hok : aOkL (8 + h.1.length) lv st = true) (hM : aM md' (.ref q :: As) h Q') (hbc : md'.2.2.2.2.cells ≤ bc) (hbs : md'.2.2.2.2.slots ≤ bs) (k : ∀ r h', Q' r h' → h.1.length ≤ h'.1.length → r = none ∧ aX md E h' (pc + 3) lv st (bc - md'.2.2.2.2.cells) (bs - md'.2.2.2.2.slots) Q) : aX md E h pc lv stk bc bs Q := by
  subst hstk
  intro p l e s m args below meth c G ad A H locs cells slots ls Qm CC hR hl h1 h2 F
  have hts := CC.2.2.2.2.1
  have hK := CC.2.2.2.2.2.2
  have hgo : ∀ (r : Option Value) (ad' : Nat → Nat) (h' : aH) (H1 : Heap) (locs1 : List Loc), aLe h ad h' ad' → Q' r h' → aR G ad' h' A s H1 locs1 → W p l e md.2.2.2.2 s m args below meth c H1 locs1 (cells + md'.2.2.2.2.cells) (slots + md'.2.2.2.2.slots) Qm (F0 m (pc + 3) ls ((r.map (aV ad')).toList ++ st.map (aV ad))) := by
    intro r ad' h' H1 locs1 hLe hq hR'
    obtain ⟨k1, k2⟩ := k r h' hq hLe.1
    subst k1
    obtain ⟨w1, w2⟩ := aOkL_eq hok hLe.2.1
    have e := k2 p l e s m args below meth c G ad' A H1 locs1 (cells + md'.2.2.2.2.cells) (slots + md'.2.2.2.2.slots) ls Qm (aCtx_ad CC (fun k hk => hLe.2.1 k (by omega))) hR' (by rw [w1]; exact hl) (by omega) (by omega) (F.tr hLe)
    rw [w2] at e
    exact e
  have hstk : (As.reverse ++ Value.ref q :: st).map (aV ad) = (As.map (aV ad)).reverse ++ Value.ref (ad q) :: st.map (aV ad) := by
    rw [List.map_append, List.map_reverse]
    rfl
  have hws : (Cond.code md'.1 md'.2.1 md'.2.2.1 md'.2.2.2.1 :: aTb) = Cond.code md'.1 md'.2.1 md'.2.2.1 none :: aTb := by rw [hret]
  rcases hl1 with hl1 | hl1
  · exact aCall (rest := st.map (aV ad)) (Q' := Q') (va_runI (y := md'.1) (cc := md.2.1) (nL := md.2.2.1) (own := md.1.cls) (b := ad q) (As := As.map (aV ad)) (rest := st.map (aV ad)) (index := idx) ⟨CC.1, CC.2.1, CC.2.2.1, CC.2.2.2.1, hts⟩ (hM l G ad H.size) ⟨callB_of n hts (aGood hw) hws rfl rfl (hts _ hw.2.1) (hts _ hl1) ⟨hw.2.2.1, hw.2.2.2, hpn⟩ hrm, hnm, hts _ hl2⟩ ⟨aMP_blind, fun U hU hW => aMP_at hE hK hR hU hW⟩ rfl (by rw [List.length_map]; exact hn) hl.1 hstk (lv_room (by rw [aCat]; exact hcat)) hd ⟨by omega, by omega⟩) hK.2.1 hR hgo
  · exact aCall (rest := st.map (aV ad)) (Q' := Q') (va_runIN (y := md'.1) (cc := md.2.1) (nL := md.2.2.1) (own := md.1.cls) (host := "JustMoves") (b := ad q) (As := As.map (aV ad)) (rest := st.map (aV ad)) (index := idx) ⟨CC.1, CC.2.1, CC.2.2.1, CC.2.2.2.1, hts⟩ (hM l G ad H.size) ⟨va_cnB n hts (aGood hw) hws rfl rfl (hK.2.2.2.2.2.1 _ hl1) (hts _ hw.2.1) ⟨hw.2.2.1, hw.2.2.2, hpn⟩ hrm, hnm, hts _ hl2⟩ ⟨aMP_blind, fun U hU hW => aMP_at hE hK hR hU hW⟩ rfl (by rw [List.length_map]; exact hn) hl.1 hstk (lv_room (by rw [aCat]; exact hcat)) hd ⟨by omega, by omega⟩) hK.2.1 hR hgo
/-- the words of System.arraycopy -/
def aWc (own : String) (idx : Nat) : Prop := Cond.methodLink own idx arraycopyName ∈ aTb ∧ Cond.native arraycopyName ∈ aTb ∧ Cond.static arraycopyName ∈ aTb ∧ Cond.initialized "java/lang/System" ∈ aTb
theorem aX_copyi {idx q0 q1 n0 n1 : Nat} {sp dp n : Int32} (hd : decode md.2.1 pc = .ok (.invokestatic idx, 3)) (hw : aWc md.1.cls idx) (hs0 : aSh h q0 = some (0, n0)) (hs1 : aSh h q1 = some (0, n1)) (g1 : ¬ sp < 0) (g2 : ¬ dp < 0) (g3 : ¬ n < 0) (g4 : sp.toNatClampNeg + n.toNatClampNeg ≤ n0) (g5 : dp.toNatClampNeg + n.toNatClampNeg ≤ n1) (hf : 1 ≤ md.2.2.2.2.frames) (hlo : (st.map fun v => v.category).sum + 18 ≤ md.2.2.2.2.locals)
    (k : aX md E (h.1, aUr h.2.1 q1 (va_cpy (h.2.1 q0) (h.2.1 q1) sp.toNatClampNeg dp.toNatClampNeg n.toNatClampNeg), h.2.2) (pc + 3) lv st bc bs Q) : aX md E h pc lv (.int n :: .int dp :: .ref q1 :: .int sp :: .ref q0 :: st) bc bs Q := by
  intro p l e s m args below meth c G ad A H locs cells slots ls Qm CC hR hl h1 h2 F
  have hts := CC.2.2.2.2.1
  exact va_copyi (D := G.1) CC.1 CC.2.1 (CC.2.2.1.trans hl.1.symm) CC.2.2.2.1 (hts _ hw.1) (hts _ hw.2.1) (hts _ hw.2.2.1) (hts _ hw.2.2.2) CC.2.2.2.2.2.2.1 hR.1 hR.2.1 hR.2.2 (q0 - 8) (q1 - 8) 0 0 (aWs_get hs0) (aWs_get hs1) rfl rfl rfl g1 g2 g3 g4 g5 (fun _ _ => rfl) hf (by rw [aCat]; exact hlo) hd (fun H1 locs1 a1 a2 a3 => k p l e s m args below meth c G ad A H1 locs1 cells slots ls Qm CC (aR_set hs1 rfl (by show Sum.inl (G.2 0, n1, Sum.inl (aUr h.2.1 q1 _ q1)) = _; rw [aUr_s]) (fun k9 h9 z9 => by refine aEnt_same ?_ ?_ ?_ z9 <;> first | rfl | exact aUr_o h9) a1 a2 a3) hl h1 h2 (F.tr (aLe.rf rfl)))
theorem aX_copyl {idx q0 q1 n0 n1 : Nat} {sp dp n : Int32} (hd : decode md.2.1 pc = .ok (.invokestatic idx, 3)) (hw : aWc md.1.cls idx) (hs0 : aSh h q0 = some (3, n0)) (hs1 : aSh h q1 = some (3, n1)) (g1 : ¬ sp < 0) (g2 : ¬ dp < 0) (g3 : ¬ n < 0) (g4 : sp.toNatClampNeg + n.toNatClampNeg ≤ n0) (g5 : dp.toNatClampNeg + n.toNatClampNeg ≤ n1) (hf : 1 ≤ md.2.2.2.2.frames) (hlo : (st.map fun v => v.category).sum + 18 ≤ md.2.2.2.2.locals)
    (k : aX md E (h.1, h.2.1, aUr h.2.2.1 q1 (va_cpy (h.2.2.1 q0) (h.2.2.1 q1) sp.toNatClampNeg dp.toNatClampNeg n.toNatClampNeg), h.2.2.2) (pc + 3) lv st bc bs Q) : aX md E h pc lv (.int n :: .int dp :: .ref q1 :: .int sp :: .ref q0 :: st) bc bs Q := by
  intro p l e s m args below meth c G ad A H locs cells slots ls Qm CC hR hl h1 h2 F
  have hts := CC.2.2.2.2.1
  exact va_copyl (D := G.1) CC.1 CC.2.1 (CC.2.2.1.trans hl.1.symm) CC.2.2.2.1 (hts _ hw.1) (hts _ hw.2.1) (hts _ hw.2.2.1) (hts _ hw.2.2.2) CC.2.2.2.2.2.2.1 hR.1 hR.2.1 hR.2.2 (q0 - 8) (q1 - 8) 3 3 (aWs_get hs0) (aWs_get hs1) rfl rfl rfl g1 g2 g3 g4 g5 (fun _ _ => rfl) hf (by rw [aCat]; exact hlo) hd (fun H1 locs1 a1 a2 a3 => k p l e s m args below meth c G ad A H1 locs1 cells slots ls Qm CC (aR_set hs1 rfl (by show Sum.inl (G.2 3, n1, Sum.inr (Sum.inl (aUr h.2.2.1 q1 _ q1))) = _; rw [aUr_s]) (fun k9 h9 z9 => by refine aEnt_same ?_ ?_ ?_ z9 <;> first | rfl | exact aUr_o h9) a1 a2 a3) hl h1 h2 (F.tr (aLe.rf rfl)))
/-- from a static array -/
theorem aX_copye {idx q0 q1 n0 n1 : Nat} {f : Nat → Int32} {sp dp n : Int32} (hd : decode md.2.1 pc = .ok (.invokestatic idx, 3)) (hw : aWc md.1.cls idx) (hs0 : E[q0]? = some (n0, f)) (hs1 : aSh h q1 = some (0, n1)) (g1 : ¬ sp < 0) (g2 : ¬ dp < 0) (g3 : ¬ n < 0) (g4 : sp.toNatClampNeg + n.toNatClampNeg ≤ n0) (g5 : dp.toNatClampNeg + n.toNatClampNeg ≤ n1) (hf : 1 ≤ md.2.2.2.2.frames) (hlo : (st.map fun v => v.category).sum + 18 ≤ md.2.2.2.2.locals)
    (k : aX md E (h.1, aUr h.2.1 q1 (va_cpy f (h.2.1 q1) sp.toNatClampNeg dp.toNatClampNeg n.toNatClampNeg), h.2.2) (pc + 3) lv st bc bs Q) : aX md E h pc lv (.int n :: .int dp :: .ref q1 :: .int sp :: .ref q0 :: st) bc bs Q := by
  intro p l e s m args below meth c G ad A H locs cells slots ls Qm CC hR hl h1 h2 F
  have hts := CC.2.2.2.2.1
  obtain ⟨cell, e1, ⟨e2, ks, hks, cmS, hkS⟩, e3, e4, e5, e6, e7⟩ := CC.2.2.2.2.2.2.2.2.2.1 q0 _ hs0
  have nn : ∀ z : Int32, ¬ z < 0 → z.toInt = (z.toNatClampNeg : Int) := by
    intro z hz
    have hz0 : (0 : Int) ≤ z.toInt := by simpa using Int32.le_iff_toInt_le.mp (Int32.not_lt.mp hz)
    show z.toInt = ((z.toInt.toNat : Nat) : Int)
    omega
  have hP := hR.1
  have hD := hR.2.1
  have hS := hR.2.2
  have ha1 := aWs_get (G := G) (ad := ad) hs1
  have hc0 : H[ad q0]? = some cell := by rw [hS.2.1 (ad q0) (Array.getElem?_eq_some_iff.mp e1).1 e7]; exact e1
  have hc1 : H[ad q1]? = some (vp_cell (G.2 0) (n1, .inl (h.2.1 q1))) := hP (q1 - 8) _ ha1
  have hl1 : ad q1 < H.size := (Array.getElem?_eq_some_iff.mp hc1).1
  obtain ⟨-, k1, hk1, cm1, hkk1⟩ := (CC.2.2.2.2.2.2.1.2 0 _ rfl).1 n1 (fun j => .int (h.2.1 q1 j))
  have hcp : copied cell (vp_cell (G.2 0) (n1, .inl (h.2.1 q1))) sp dp n = vp_cell (G.2 0) (n1, .inl (va_cpy f (h.2.1 q1) sp.toNatClampNeg dp.toNatClampNeg n.toNatClampNeg)) := va_copiedX (fun z => .int z) cell (G.2 0) f (h.2.1 q1) e6 g4
  intro T hT X
  obtain ⟨vm', X', step⟩ := X.arraycopy CC.1 CC.2.2.2.1 (hts _ hw.1) (hts _ hw.2.1) (hts _ hw.2.2.1) (hts _ hw.2.2.2) (src := ad q0) (dst := ad q1) (cs := cell) (cd := vp_cell (G.2 0) (n1, .inl (h.2.1 q1))) (srcPos := sp) (destPos := dp) (n := n) (by rw [hT]; exact hc0) (by rw [hT]; exact hc1)
    e2 (fun _ z => by cases z) e3 (fun z => by cases z) hks hk1 hkS hkk1 (by simp [refKind]) g1 g2 g3
    (by rw [nn sp g1, nn n g3]; have e4' : n0 ≤ cell.slots.size := e4; omega)
    (by rw [nn dp g2, nn n g3]; show ¬ _ > ((arrV (G.2 0) n1 (fun j => .int (h.2.1 q1 j))).slots.size : Int); rw [arrV_size]; omega)
    (fun vm₁ _ i hi => by
      have e : cell.slots.getD (sp.toNatClampNeg + i) .null = .int (f (sp.toNatClampNeg + i)) := by
        rw [Array.getD_eq_getD_getElem?, e6 _ (by show _ < n0; omega)]
        rfl
      rw [e]
      exact ⟨rfl, trivial⟩)
    (g := F0 m pc ls (.int n :: .int dp :: .ref (ad q1) :: .int sp :: .ref (ad q0) :: st.map (aV ad))) rfl (by rw [CC.2.2.1]; exact hl.1) (rest := st.map (aV ad)) rfl (by rw [CC.2.1]; exact hd) hf (by show 2 * 0 + ((st.map (aV ad)).map fun v => v.category).sum + 18 ≤ _; rw [aCat]; omega)
  rw [hcp] at X' step
  have oq : ∀ q : Nat, q ≠ ad q1 → (H.setIfInBounds (ad q1) (vp_cell (G.2 0) (n1, .inl (va_cpy f (h.2.1 q1) sp.toNatClampNeg dp.toNatClampNeg n.toNatClampNeg))))[q]? = H[q]? := fun q hq => by simp [Array.getElem?_setIfInBounds, Ne.symm hq]
  have hP1 := hP.set hD ha1 (e := .inl (G.2 0, n1, .inl (va_cpy f (h.2.1 q1) sp.toNatClampNeg dp.toNatClampNeg n.toNatClampNeg))) (show (H.setIfInBounds (ad q1) _)[ad q1]? = some _ by simp [Array.getElem?_setIfInBounds, hl1]) oq
  obtain ⟨t, a1, b1⟩ := k p l e s m args below meth c G ad A _ _ cells slots ls Qm CC (aR_set hs1 rfl (by show Sum.inl (G.2 0, n1, Sum.inl (aUr h.2.1 q1 _ q1)) = _; rw [aUr_s]) (fun k9 h9 z9 => by refine aEnt_same ?_ ?_ ?_ z9 <;> first | rfl | exact aUr_o h9) hP1 (hD.set ha1) ⟨by simp; exact hS.1, fun q y1 y2 => by
      rw [oq q (fun e => y2 (by rw [e]; exact hD.2 _ _ ha1))]
      exact hS.2.1 q y1 y2, fun q hq => by
      rcases List.mem_append.mp hq with y | y
      · exact hS.2.2 q y
      · obtain ⟨z, -, hz⟩ := List.mem_map.mp y
        rw [← hz]
        exact hD.2 _ _ ha1⟩) hl h1 h2 (F.tr (aLe.rf rfl)) ((T.setVm vm').setCell (ad q1) (vp_cell (G.2 0) (n1, .inl (va_cpy f (h.2.1 q1) sp.toNatClampNeg dp.toNatClampNeg n.toNatClampNeg)))) (by rw [← hT]; rfl) X'
  exact ⟨t, step t a1, b1⟩
end ACI
end
section
/-! THE WORDS OF EACH METHOD, FIELD, CONSTANT -/
theorem aI1 {w : Cond} (i : Nat) (h : tables_1_1[i]? = some w) (g : goodWord w = true) : w ∈ aTb := aTb_in (List.mem_append_right _ (List.mem_append_left _ (List.mem_of_getElem? h))) g
theorem aI2 {w : Cond} (i : Nat) (h : tables_1_2[i]? = some w) (g : goodWord w = true) : w ∈ aTb := aTb_in (List.mem_append_right _ (List.mem_append_right _ (List.mem_append_left _ (List.mem_of_getElem? h)))) g
theorem aI3 {w : Cond} (i : Nat) (h : tables_1_3[i]? = some w) (g : goodWord w = true) : w ∈ aTb := aTb_in (List.mem_append_right _ (List.mem_append_right _ (List.mem_append_right _ (List.mem_append_left _ (List.mem_of_getElem? h))))) g
theorem aI4 {w : Cond} (i : Nat) (h : tables_1_4[i]? = some w) (g : goodWord w = true) : w ∈ aTb := aTb_in (List.mem_append_right _ (List.mem_append_right _ (List.mem_append_right _ (List.mem_append_right _ (List.mem_append_left _ (List.mem_of_getElem? h)))))) g
theorem aI5 {w : Cond} (i : Nat) (h : tables_1_5[i]? = some w) (g : goodWord w = true) : w ∈ aTb := aTb_in (List.mem_append_right _ (List.mem_append_right _ (List.mem_append_right _ (List.mem_append_right _ (List.mem_append_right _ (List.mem_append_left _ (List.mem_of_getElem? h))))))) g
theorem aI6 {w : Cond} (i : Nat) (h : tables_1_6[i]? = some w) (g : goodWord w = true) : w ∈ aTb := aTb_in (List.mem_append_right _ (List.mem_append_right _ (List.mem_append_right _ (List.mem_append_right _ (List.mem_append_right _ (List.mem_append_right _ (List.mem_of_getElem? h))))))) g
theorem aNi1 {w : Cond} {i : Nat} (h : tables_1_1[i]? = some w) : w ∈ lw_tbl := List.mem_append_right _ (List.mem_append_left _ (List.mem_of_getElem? h))
theorem aNi2 {w : Cond} {i : Nat} (h : tables_1_2[i]? = some w) : w ∈ lw_tbl := List.mem_append_right _ (List.mem_append_right _ (List.mem_append_left _ (List.mem_of_getElem? h)))
theorem aNi3 {w : Cond} {i : Nat} (h : tables_1_3[i]? = some w) : w ∈ lw_tbl := List.mem_append_right _ (List.mem_append_right _ (List.mem_append_right _ (List.mem_append_left _ (List.mem_of_getElem? h))))
theorem aNi4 {w : Cond} {i : Nat} (h : tables_1_4[i]? = some w) : w ∈ lw_tbl := List.mem_append_right _ (List.mem_append_right _ (List.mem_append_right _ (List.mem_append_right _ (List.mem_append_left _ (List.mem_of_getElem? h)))))
theorem aJ {w : Cond} (i : Nat) (h : (k2_sels lw_privs)[i]? = some w) (g : goodWord w = true) : w ∈ aTb := aTb_in (List.mem_append_left _ (List.mem_of_getElem? h)) g
theorem aC0 : ∀ w ∈ u_ws RX0 TX0 9, w ∈ aTb := by
  intro w hw
  obtain ⟨k, hk, rfl⟩ := List.mem_map.mp hw
  have hk := List.mem_range.mp hk
  rcases (show k = 0 ∨ k = 1 ∨ k = 2 ∨ k = 3 ∨ k = 4 ∨ k = 5 ∨ k = 6 ∨ k = 7 ∨ k = 8 by omega) with rfl | rfl | rfl | rfl | rfl | rfl | rfl | rfl | rfl
  · exact aI2 45 rfl rfl
  · exact aI2 47 rfl rfl
  · exact aI2 49 rfl rfl
  · exact aI2 51 rfl rfl
  · exact aI2 53 rfl rfl
  · exact aI2 55 rfl rfl
  · exact aI2 57 rfl rfl
  · exact aI2 59 rfl rfl
  · exact aI2 61 rfl rfl
theorem aCi0 : Cond.instantiable RX0 9 ∈ aTb := aI2 28 rfl rfl
theorem aCz0 : Cond.initialized RX0 ∈ aTb := aI1 10 rfl rfl
theorem aTk0 : ∀ k, k < 9 → aT 0 k = .int ∨ aT 0 k = .boolean ∨ aT 0 k = .long ∨ (∃ C, aT 0 k = .object C) ∨ ∃ t, aT 0 k = .array t := by
  intro k hk
  rcases (show k = 0 ∨ k = 1 ∨ k = 2 ∨ k = 3 ∨ k = 4 ∨ k = 5 ∨ k = 6 ∨ k = 7 ∨ k = 8 by omega) with rfl | rfl | rfl | rfl | rfl | rfl | rfl | rfl | rfl <;> first | exact Or.inl rfl | exact Or.inr (Or.inl rfl) | exact Or.inr (Or.inr (Or.inl rfl)) | exact Or.inr (Or.inr (Or.inr (Or.inl ⟨_, rfl⟩))) | exact Or.inr (Or.inr (Or.inr (Or.inr ⟨_, rfl⟩)))
theorem aC1 : ∀ w ∈ u_ws RX1 TX1 10, w ∈ aTb := by
  intro w hw
  obtain ⟨k, hk, rfl⟩ := List.mem_map.mp hw
  have hk := List.mem_range.mp hk
  rcases (show k = 0 ∨ k = 1 ∨ k = 2 ∨ k = 3 ∨ k = 4 ∨ k = 5 ∨ k = 6 ∨ k = 7 ∨ k = 8 ∨ k = 9 by omega) with rfl | rfl | rfl | rfl | rfl | rfl | rfl | rfl | rfl | rfl
  · exact aI2 5 rfl rfl
  · exact aI2 7 rfl rfl
  · exact aI2 9 rfl rfl
  · exact aI2 11 rfl rfl
  · exact aI2 13 rfl rfl
  · exact aI2 15 rfl rfl
  · exact aI2 17 rfl rfl
  · exact aI2 19 rfl rfl
  · exact aI2 21 rfl rfl
  · exact aI2 23 rfl rfl
theorem aCi1 : Cond.instantiable RX1 10 ∈ aTb := aI1 227 rfl rfl
theorem aCz1 : Cond.initialized RX1 ∈ aTb := aI1 9 rfl rfl
theorem aTk1 : ∀ k, k < 10 → aT 1 k = .int ∨ aT 1 k = .boolean ∨ aT 1 k = .long ∨ (∃ C, aT 1 k = .object C) ∨ ∃ t, aT 1 k = .array t := by
  intro k hk
  rcases (show k = 0 ∨ k = 1 ∨ k = 2 ∨ k = 3 ∨ k = 4 ∨ k = 5 ∨ k = 6 ∨ k = 7 ∨ k = 8 ∨ k = 9 by omega) with rfl | rfl | rfl | rfl | rfl | rfl | rfl | rfl | rfl | rfl <;> first | exact Or.inl rfl | exact Or.inr (Or.inl rfl) | exact Or.inr (Or.inr (Or.inl rfl)) | exact Or.inr (Or.inr (Or.inr (Or.inl ⟨_, rfl⟩))) | exact Or.inr (Or.inr (Or.inr (Or.inr ⟨_, rfl⟩)))
theorem aC2 : ∀ w ∈ u_ws RX2 TX2 4, w ∈ aTb := by
  intro w hw
  obtain ⟨k, hk, rfl⟩ := List.mem_map.mp hw
  have hk := List.mem_range.mp hk
  rcases (show k = 0 ∨ k = 1 ∨ k = 2 ∨ k = 3 by omega) with rfl | rfl | rfl | rfl
  · exact aI1 178 rfl rfl
  · exact aI1 180 rfl rfl
  · exact aI1 182 rfl rfl
  · exact aI1 184 rfl rfl
theorem aCi2 : Cond.instantiable RX2 4 ∈ aTb := aI1 151 rfl rfl
theorem aCz2 : Cond.initialized RX2 ∈ aTb := aI1 4 rfl rfl
theorem aTk2 : ∀ k, k < 4 → aT 2 k = .int ∨ aT 2 k = .boolean ∨ aT 2 k = .long ∨ (∃ C, aT 2 k = .object C) ∨ ∃ t, aT 2 k = .array t := by
  intro k hk
  rcases (show k = 0 ∨ k = 1 ∨ k = 2 ∨ k = 3 by omega) with rfl | rfl | rfl | rfl <;> first | exact Or.inl rfl | exact Or.inr (Or.inl rfl) | exact Or.inr (Or.inr (Or.inl rfl)) | exact Or.inr (Or.inr (Or.inr (Or.inl ⟨_, rfl⟩))) | exact Or.inr (Or.inr (Or.inr (Or.inr ⟨_, rfl⟩)))
theorem aC3 : ∀ w ∈ u_ws RX3 TX3 5, w ∈ aTb := by
  intro w hw
  obtain ⟨k, hk, rfl⟩ := List.mem_map.mp hw
  have hk := List.mem_range.mp hk
  rcases (show k = 0 ∨ k = 1 ∨ k = 2 ∨ k = 3 ∨ k = 4 by omega) with rfl | rfl | rfl | rfl | rfl
  · exact aI1 61 rfl rfl
  · exact aI1 63 rfl rfl
  · exact aI1 65 rfl rfl
  · exact aI1 67 rfl rfl
  · exact aI1 69 rfl rfl
theorem aCi3 : Cond.instantiable RX3 5 ∈ aTb := aI1 26 rfl rfl
theorem aCz3 : Cond.initialized RX3 ∈ aTb := aI1 2 rfl rfl
theorem aTk3 : ∀ k, k < 5 → aT 3 k = .int ∨ aT 3 k = .boolean ∨ aT 3 k = .long ∨ (∃ C, aT 3 k = .object C) ∨ ∃ t, aT 3 k = .array t := by
  intro k hk
  rcases (show k = 0 ∨ k = 1 ∨ k = 2 ∨ k = 3 ∨ k = 4 by omega) with rfl | rfl | rfl | rfl | rfl <;> first | exact Or.inl rfl | exact Or.inr (Or.inl rfl) | exact Or.inr (Or.inr (Or.inl rfl)) | exact Or.inr (Or.inr (Or.inr (Or.inl ⟨_, rfl⟩))) | exact Or.inr (Or.inr (Or.inr (Or.inr ⟨_, rfl⟩)))
theorem aC4 : ∀ w ∈ u_ws RX4 TX4 3, w ∈ aTb := by
  intro w hw
  obtain ⟨k, hk, rfl⟩ := List.mem_map.mp hw
  have hk := List.mem_range.mp hk
  rcases (show k = 0 ∨ k = 1 ∨ k = 2 by omega) with rfl | rfl | rfl
  · exact aI1 219 rfl rfl
  · exact aI1 221 rfl rfl
  · exact aI1 223 rfl rfl
theorem aCi4 : Cond.instantiable RX4 3 ∈ aTb := aI1 209 rfl rfl
theorem aCz4 : Cond.initialized RX4 ∈ aTb := aI1 8 rfl rfl
theorem aTk4 : ∀ k, k < 3 → aT 4 k = .int ∨ aT 4 k = .boolean ∨ aT 4 k = .long ∨ (∃ C, aT 4 k = .object C) ∨ ∃ t, aT 4 k = .array t := by
  intro k hk
  rcases (show k = 0 ∨ k = 1 ∨ k = 2 by omega) with rfl | rfl | rfl <;> first | exact Or.inl rfl | exact Or.inr (Or.inl rfl) | exact Or.inr (Or.inr (Or.inl rfl)) | exact Or.inr (Or.inr (Or.inr (Or.inl ⟨_, rfl⟩))) | exact Or.inr (Or.inr (Or.inr (Or.inr ⟨_, rfl⟩)))
theorem aC5 : ∀ w ∈ u_ws RX5 TX5 15, w ∈ aTb := by
  intro w hw
  obtain ⟨k, hk, rfl⟩ := List.mem_map.mp hw
  have hk := List.mem_range.mp hk
  rcases (show k = 0 ∨ k = 1 ∨ k = 2 ∨ k = 3 ∨ k = 4 ∨ k = 5 ∨ k = 6 ∨ k = 7 ∨ k = 8 ∨ k = 9 ∨ k = 10 ∨ k = 11 ∨ k = 12 ∨ k = 13 ∨ k = 14 by omega) with rfl | rfl | rfl | rfl | rfl | rfl | rfl | rfl | rfl | rfl | rfl | rfl | rfl | rfl | rfl
  · exact aI1 118 rfl rfl
  · exact aI1 120 rfl rfl
  · exact aI1 122 rfl rfl
  · exact aI1 124 rfl rfl
  · exact aI1 126 rfl rfl
  · exact aI1 128 rfl rfl
  · exact aI1 130 rfl rfl
  · exact aI1 132 rfl rfl
  · exact aI1 134 rfl rfl
  · exact aI1 136 rfl rfl
  · exact aI1 138 rfl rfl
  · exact aI1 140 rfl rfl
  · exact aI1 142 rfl rfl
  · exact aI1 144 rfl rfl
  · exact aI1 146 rfl rfl
theorem aCi5 : Cond.instantiable RX5 15 ∈ aTb := aI1 74 rfl rfl
theorem aCz5 : Cond.initialized RX5 ∈ aTb := aI1 3 rfl rfl
theorem aTk5 : ∀ k, k < 15 → aT 5 k = .int ∨ aT 5 k = .boolean ∨ aT 5 k = .long ∨ (∃ C, aT 5 k = .object C) ∨ ∃ t, aT 5 k = .array t := by
  intro k hk
  rcases (show k = 0 ∨ k = 1 ∨ k = 2 ∨ k = 3 ∨ k = 4 ∨ k = 5 ∨ k = 6 ∨ k = 7 ∨ k = 8 ∨ k = 9 ∨ k = 10 ∨ k = 11 ∨ k = 12 ∨ k = 13 ∨ k = 14 by omega) with rfl | rfl | rfl | rfl | rfl | rfl | rfl | rfl | rfl | rfl | rfl | rfl | rfl | rfl | rfl <;> first | exact Or.inl rfl | exact Or.inr (Or.inl rfl) | exact Or.inr (Or.inr (Or.inl rfl)) | exact Or.inr (Or.inr (Or.inr (Or.inl ⟨_, rfl⟩))) | exact Or.inr (Or.inr (Or.inr (Or.inr ⟨_, rfl⟩)))
theorem aC6 : ∀ w ∈ u_ws RX6 TX6 8, w ∈ aTb := by
  intro w hw
  obtain ⟨k, hk, rfl⟩ := List.mem_map.mp hw
  have hk := List.mem_range.mp hk
  rcases (show k = 0 ∨ k = 1 ∨ k = 2 ∨ k = 3 ∨ k = 4 ∨ k = 5 ∨ k = 6 ∨ k = 7 by omega) with rfl | rfl | rfl | rfl | rfl | rfl | rfl | rfl
  · exact aI2 127 rfl rfl
  · exact aI2 129 rfl rfl
  · exact aI2 131 rfl rfl
  · exact aI2 133 rfl rfl
  · exact aI2 135 rfl rfl
  · exact aI2 137 rfl rfl
  · exact aI2 139 rfl rfl
  · exact aI2 141 rfl rfl
theorem aCi6 : Cond.instantiable RX6 8 ∈ aTb := aI2 109 rfl rfl
theorem aCz6 : Cond.initialized RX6 ∈ aTb := aI1 12 rfl rfl
theorem aTk6 : ∀ k, k < 8 → aT 6 k = .int ∨ aT 6 k = .boolean ∨ aT 6 k = .long ∨ (∃ C, aT 6 k = .object C) ∨ ∃ t, aT 6 k = .array t := by
  intro k hk
  rcases (show k = 0 ∨ k = 1 ∨ k = 2 ∨ k = 3 ∨ k = 4 ∨ k = 5 ∨ k = 6 ∨ k = 7 by omega) with rfl | rfl | rfl | rfl | rfl | rfl | rfl | rfl <;> first | exact Or.inl rfl | exact Or.inr (Or.inl rfl) | exact Or.inr (Or.inr (Or.inl rfl)) | exact Or.inr (Or.inr (Or.inr (Or.inl ⟨_, rfl⟩))) | exact Or.inr (Or.inr (Or.inr (Or.inr ⟨_, rfl⟩)))
theorem aC7 : ∀ w ∈ u_ws RX7 TX7 10, w ∈ aTb := by
  intro w hw
  obtain ⟨k, hk, rfl⟩ := List.mem_map.mp hw
  have hk := List.mem_range.mp hk
  rcases (show k = 0 ∨ k = 1 ∨ k = 2 ∨ k = 3 ∨ k = 4 ∨ k = 5 ∨ k = 6 ∨ k = 7 ∨ k = 8 ∨ k = 9 by omega) with rfl | rfl | rfl | rfl | rfl | rfl | rfl | rfl | rfl | rfl
  · exact aI2 87 rfl rfl
  · exact aI2 89 rfl rfl
  · exact aI2 91 rfl rfl
  · exact aI2 93 rfl rfl
  · exact aI2 95 rfl rfl
  · exact aI2 97 rfl rfl
  · exact aI2 99 rfl rfl
  · exact aI2 101 rfl rfl
  · exact aI2 103 rfl rfl
  · exact aI2 105 rfl rfl
theorem aCi7 : Cond.instantiable RX7 10 ∈ aTb := aI2 65 rfl rfl
theorem aCz7 : Cond.initialized RX7 ∈ aTb := aI1 11 rfl rfl
theorem aTk7 : ∀ k, k < 10 → aT 7 k = .int ∨ aT 7 k = .boolean ∨ aT 7 k = .long ∨ (∃ C, aT 7 k = .object C) ∨ ∃ t, aT 7 k = .array t := by
  intro k hk
  rcases (show k = 0 ∨ k = 1 ∨ k = 2 ∨ k = 3 ∨ k = 4 ∨ k = 5 ∨ k = 6 ∨ k = 7 ∨ k = 8 ∨ k = 9 by omega) with rfl | rfl | rfl | rfl | rfl | rfl | rfl | rfl | rfl | rfl <;> first | exact Or.inl rfl | exact Or.inr (Or.inl rfl) | exact Or.inr (Or.inr (Or.inl rfl)) | exact Or.inr (Or.inr (Or.inr (Or.inl ⟨_, rfl⟩))) | exact Or.inr (Or.inr (Or.inr (Or.inr ⟨_, rfl⟩)))
theorem aC8 : ∀ w ∈ u_ws RX8 TX8 2, w ∈ aTb := by
  intro w hw
  obtain ⟨k, hk, rfl⟩ := List.mem_map.mp hw
  have hk := List.mem_range.mp hk
  rcases (show k = 0 ∨ k = 1 by omega) with rfl | rfl
  · exact aI1 197 rfl rfl
  · exact aI1 199 rfl rfl
theorem aCi8 : Cond.instantiable RX8 2 ∈ aTb := aI1 188 rfl rfl
theorem aCz8 : Cond.initialized RX8 ∈ aTb := aI1 6 rfl rfl
theorem aTk8 : ∀ k, k < 2 → aT 8 k = .int ∨ aT 8 k = .boolean ∨ aT 8 k = .long ∨ (∃ C, aT 8 k = .object C) ∨ ∃ t, aT 8 k = .array t := by
  intro k hk
  rcases (show k = 0 ∨ k = 1 by omega) with rfl | rfl <;> first | exact Or.inl rfl | exact Or.inr (Or.inl rfl) | exact Or.inr (Or.inr (Or.inl rfl)) | exact Or.inr (Or.inr (Or.inr (Or.inl ⟨_, rfl⟩))) | exact Or.inr (Or.inr (Or.inr (Or.inr ⟨_, rfl⟩)))
theorem aC9 : ∀ w ∈ u_ws RX9 TX9 2, w ∈ aTb := by
  intro w hw
  obtain ⟨k, hk, rfl⟩ := List.mem_map.mp hw
  have hk := List.mem_range.mp hk
  rcases (show k = 0 ∨ k = 1 by omega) with rfl | rfl
  · exact aI1 167 rfl rfl
  · exact aI1 169 rfl rfl
theorem aCi9 : Cond.instantiable RX9 2 ∈ aTb := aI1 157 rfl rfl
theorem aCz9 : Cond.initialized RX9 ∈ aTb := aI1 5 rfl rfl
theorem aTk9 : ∀ k, k < 2 → aT 9 k = .int ∨ aT 9 k = .boolean ∨ aT 9 k = .long ∨ (∃ C, aT 9 k = .object C) ∨ ∃ t, aT 9 k = .array t := by
  intro k hk
  rcases (show k = 0 ∨ k = 1 by omega) with rfl | rfl <;> first | exact Or.inl rfl | exact Or.inr (Or.inl rfl) | exact Or.inr (Or.inr (Or.inl rfl)) | exact Or.inr (Or.inr (Or.inr (Or.inl ⟨_, rfl⟩))) | exact Or.inr (Or.inr (Or.inr (Or.inr ⟨_, rfl⟩)))
theorem aC10 : ∀ w ∈ u_ws RX10 TX10 12, w ∈ aTb := by
  intro w hw
  obtain ⟨k, hk, rfl⟩ := List.mem_map.mp hw
  have hk := List.mem_range.mp hk
  rcases (show k = 0 ∨ k = 1 ∨ k = 2 ∨ k = 3 ∨ k = 4 ∨ k = 5 ∨ k = 6 ∨ k = 7 ∨ k = 8 ∨ k = 9 ∨ k = 10 ∨ k = 11 by omega) with rfl | rfl | rfl | rfl | rfl | rfl | rfl | rfl | rfl | rfl | rfl | rfl
  · exact aI2 156 rfl rfl
  · exact aI2 158 rfl rfl
  · exact aI2 160 rfl rfl
  · exact aI2 162 rfl rfl
  · exact aI2 164 rfl rfl
  · exact aI2 166 rfl rfl
  · exact aI2 168 rfl rfl
  · exact aI2 170 rfl rfl
  · exact aI2 172 rfl rfl
  · exact aI2 174 rfl rfl
  · exact aI2 176 rfl rfl
  · exact aI2 178 rfl rfl
theorem aCi10 : Cond.instantiable RX10 12 ∈ aTb := aI1 18 rfl rfl
theorem aCz10 : Cond.initialized RX10 ∈ aTb := aI1 1 rfl rfl
theorem aTk10 : ∀ k, k < 12 → aT 10 k = .int ∨ aT 10 k = .boolean ∨ aT 10 k = .long ∨ (∃ C, aT 10 k = .object C) ∨ ∃ t, aT 10 k = .array t := by
  intro k hk
  rcases (show k = 0 ∨ k = 1 ∨ k = 2 ∨ k = 3 ∨ k = 4 ∨ k = 5 ∨ k = 6 ∨ k = 7 ∨ k = 8 ∨ k = 9 ∨ k = 10 ∨ k = 11 by omega) with rfl | rfl | rfl | rfl | rfl | rfl | rfl | rfl | rfl | rfl | rfl | rfl <;> first | exact Or.inl rfl | exact Or.inr (Or.inl rfl) | exact Or.inr (Or.inr (Or.inl rfl)) | exact Or.inr (Or.inr (Or.inr (Or.inl ⟨_, rfl⟩))) | exact Or.inr (Or.inr (Or.inr (Or.inr ⟨_, rfl⟩)))
theorem aC11 : ∀ w ∈ u_ws RX11 TX11 47, w ∈ aTb := by
  intro w hw
  obtain ⟨k, hk, rfl⟩ := List.mem_map.mp hw
  have hk := List.mem_range.mp hk
  rcases (show k = 0 ∨ k = 1 ∨ k = 2 ∨ k = 3 ∨ k = 4 ∨ k = 5 ∨ k = 6 ∨ k = 7 ∨ k = 8 ∨ k = 9 ∨ k = 10 ∨ k = 11 ∨ k = 12 ∨ k = 13 ∨ k = 14 ∨ k = 15 ∨ k = 16 ∨ k = 17 ∨ k = 18 ∨ k = 19 ∨ k = 20 ∨ k = 21 ∨ k = 22 ∨ k = 23 ∨ k = 24 ∨ k = 25 ∨ k = 26 ∨ k = 27 ∨ k = 28 ∨ k = 29 ∨ k = 30 ∨ k = 31 ∨ k = 32 ∨ k = 33 ∨ k = 34 ∨ k = 35 ∨ k = 36 ∨ k = 37 ∨ k = 38 ∨ k = 39 ∨ k = 40 ∨ k = 41 ∨ k = 42 ∨ k = 43 ∨ k = 44 ∨ k = 45 ∨ k = 46 by omega) with rfl | rfl | rfl | rfl | rfl | rfl | rfl | rfl | rfl | rfl | rfl | rfl | rfl | rfl | rfl | rfl | rfl | rfl | rfl | rfl | rfl | rfl | rfl | rfl | rfl | rfl | rfl | rfl | rfl | rfl | rfl | rfl | rfl | rfl | rfl | rfl | rfl | rfl | rfl | rfl | rfl | rfl | rfl | rfl | rfl | rfl | rfl
  · exact aI5 96 rfl rfl
  · exact aI5 98 rfl rfl
  · exact aI5 100 rfl rfl
  · exact aI5 102 rfl rfl
  · exact aI5 104 rfl rfl
  · exact aI5 106 rfl rfl
  · exact aI5 108 rfl rfl
  · exact aI5 110 rfl rfl
  · exact aI5 112 rfl rfl
  · exact aI5 114 rfl rfl
  · exact aI5 116 rfl rfl
  · exact aI5 118 rfl rfl
  · exact aI5 120 rfl rfl
  · exact aI5 122 rfl rfl
  · exact aI5 124 rfl rfl
  · exact aI5 126 rfl rfl
  · exact aI5 128 rfl rfl
  · exact aI5 130 rfl rfl
  · exact aI5 132 rfl rfl
  · exact aI5 134 rfl rfl
  · exact aI5 136 rfl rfl
  · exact aI5 138 rfl rfl
  · exact aI5 140 rfl rfl
  · exact aI5 142 rfl rfl
  · exact aI5 144 rfl rfl
  · exact aI5 146 rfl rfl
  · exact aI5 148 rfl rfl
  · exact aI5 150 rfl rfl
  · exact aI5 152 rfl rfl
  · exact aI5 154 rfl rfl
  · exact aI5 156 rfl rfl
  · exact aI5 158 rfl rfl
  · exact aI5 160 rfl rfl
  · exact aI5 162 rfl rfl
  · exact aI5 164 rfl rfl
  · exact aI5 166 rfl rfl
  · exact aI5 168 rfl rfl
  · exact aI5 170 rfl rfl
  · exact aI5 172 rfl rfl
  · exact aI5 174 rfl rfl
  · exact aI5 176 rfl rfl
  · exact aI5 178 rfl rfl
  · exact aI5 180 rfl rfl
  · exact aI5 182 rfl rfl
  · exact aI5 184 rfl rfl
  · exact aI5 186 rfl rfl
  · exact aI5 188 rfl rfl
theorem aCi11 : Cond.instantiable RX11 47 ∈ aTb := aI5 12 rfl rfl
theorem aCz11 : Cond.initialized RX11 ∈ aTb := aI1 13 rfl rfl
theorem aTk11 : ∀ k, k < 47 → aT 11 k = .int ∨ aT 11 k = .boolean ∨ aT 11 k = .long ∨ (∃ C, aT 11 k = .object C) ∨ ∃ t, aT 11 k = .array t := by
  intro k hk
  rcases (show k = 0 ∨ k = 1 ∨ k = 2 ∨ k = 3 ∨ k = 4 ∨ k = 5 ∨ k = 6 ∨ k = 7 ∨ k = 8 ∨ k = 9 ∨ k = 10 ∨ k = 11 ∨ k = 12 ∨ k = 13 ∨ k = 14 ∨ k = 15 ∨ k = 16 ∨ k = 17 ∨ k = 18 ∨ k = 19 ∨ k = 20 ∨ k = 21 ∨ k = 22 ∨ k = 23 ∨ k = 24 ∨ k = 25 ∨ k = 26 ∨ k = 27 ∨ k = 28 ∨ k = 29 ∨ k = 30 ∨ k = 31 ∨ k = 32 ∨ k = 33 ∨ k = 34 ∨ k = 35 ∨ k = 36 ∨ k = 37 ∨ k = 38 ∨ k = 39 ∨ k = 40 ∨ k = 41 ∨ k = 42 ∨ k = 43 ∨ k = 44 ∨ k = 45 ∨ k = 46 by omega) with rfl | rfl | rfl | rfl | rfl | rfl | rfl | rfl | rfl | rfl | rfl | rfl | rfl | rfl | rfl | rfl | rfl | rfl | rfl | rfl | rfl | rfl | rfl | rfl | rfl | rfl | rfl | rfl | rfl | rfl | rfl | rfl | rfl | rfl | rfl | rfl | rfl | rfl | rfl | rfl | rfl | rfl | rfl | rfl | rfl | rfl | rfl <;> first | exact Or.inl rfl | exact Or.inr (Or.inl rfl) | exact Or.inr (Or.inr (Or.inl rfl)) | exact Or.inr (Or.inr (Or.inr (Or.inl ⟨_, rfl⟩))) | exact Or.inr (Or.inr (Or.inr (Or.inr ⟨_, rfl⟩)))
theorem aCls (k : Nat) (C : String) (T : u_T) (N : Nat) (h : vwCl[k]? = some (C, T, N)) : (∀ w ∈ u_ws C T N, w ∈ aTb) ∧ Cond.instantiable C N ∈ aTb := by
  match k, h with
  | 0, h => cases h; exact ⟨aC0, aCi0⟩
  | 1, h => cases h; exact ⟨aC1, aCi1⟩
  | 2, h => cases h; exact ⟨aC2, aCi2⟩
  | 3, h => cases h; exact ⟨aC3, aCi3⟩
  | 4, h => cases h; exact ⟨aC4, aCi4⟩
  | 5, h => cases h; exact ⟨aC5, aCi5⟩
  | 6, h => cases h; exact ⟨aC6, aCi6⟩
  | 7, h => cases h; exact ⟨aC7, aCi7⟩
  | 8, h => cases h; exact ⟨aC8, aCi8⟩
  | 9, h => cases h; exact ⟨aC9, aCi9⟩
  | 10, h => cases h; exact ⟨aC10, aCi10⟩
  | 11, h => cases h; exact ⟨aC11, aCi11⟩
  | k + 12, h => simp at h
theorem aNs_in : ∀ w ∈ aNs, w ∈ lw_tbl := by
  intro w hw
  unfold aNs at hw
  simp only [List.mem_cons, List.not_mem_nil, or_false] at hw
  rcases hw with rfl | rfl | rfl | rfl | rfl | rfl | rfl | rfl | rfl | rfl | rfl
  · exact aNi1 (i := 31) rfl
  · exact aNi1 (i := 33) rfl
  · exact aNi1 (i := 43) rfl
  · exact aNi1 (i := 48) rfl
  · exact aNi1 (i := 75) rfl
  · exact aNi1 (i := 152) rfl
  · exact aNi1 (i := 158) rfl
  · exact aNi1 (i := 189) rfl
  · exact aNi2 (i := 117) rfl
  · exact aNi3 (i := 210) rfl
  · exact aNi4 (i := 37) rfl
end
section
theorem pd0 : (parseMethodDescriptor "()I").map (fun d => d.parameters.length) = some 0 := by decide +kernel
theorem pd1 : (parseMethodDescriptor "()J").map (fun d => d.parameters.length) = some 0 := by decide +kernel
theorem pd2 : (parseMethodDescriptor "()V").map (fun d => d.parameters.length) = some 0 := by decide +kernel
theorem pd3 : (parseMethodDescriptor "(I)I").map (fun d => d.parameters.length) = some 1 := by decide +kernel
theorem pd4 : (parseMethodDescriptor "(I)V").map (fun d => d.parameters.length) = some 1 := by decide +kernel
theorem pd5 : (parseMethodDescriptor "(I)Z").map (fun d => d.parameters.length) = some 1 := by decide +kernel
theorem pd6 : (parseMethodDescriptor "(II)I").map (fun d => d.parameters.length) = some 2 := by decide +kernel
theorem pd7 : (parseMethodDescriptor "(II)J").map (fun d => d.parameters.length) = some 2 := by decide +kernel
theorem pd8 : (parseMethodDescriptor "(II)V").map (fun d => d.parameters.length) = some 2 := by decide +kernel
theorem pd9 : (parseMethodDescriptor "(II)Z").map (fun d => d.parameters.length) = some 2 := by decide +kernel
theorem pd10 : (parseMethodDescriptor "(III)I").map (fun d => d.parameters.length) = some 3 := by decide +kernel
theorem pd11 : (parseMethodDescriptor "(III)J").map (fun d => d.parameters.length) = some 3 := by decide +kernel
theorem pd12 : (parseMethodDescriptor "(III)V").map (fun d => d.parameters.length) = some 3 := by decide +kernel
theorem pd13 : (parseMethodDescriptor "(III)Z").map (fun d => d.parameters.length) = some 3 := by decide +kernel
theorem pd14 : (parseMethodDescriptor "(IIII)I").map (fun d => d.parameters.length) = some 4 := by decide +kernel
theorem pd15 : (parseMethodDescriptor "(IIII)V").map (fun d => d.parameters.length) = some 4 := by decide +kernel
theorem pd16 : (parseMethodDescriptor "(IIJ)V").map (fun d => d.parameters.length) = some 3 := by decide +kernel
theorem pd17 : (parseMethodDescriptor "(IIJJ)V").map (fun d => d.parameters.length) = some 4 := by decide +kernel
theorem pd18 : (parseMethodDescriptor "(IJI)V").map (fun d => d.parameters.length) = some 3 := by decide +kernel
theorem pd19 : (parseMethodDescriptor "(IJJ)V").map (fun d => d.parameters.length) = some 3 := by decide +kernel
theorem pd20 : (parseMethodDescriptor "(IZ)I").map (fun d => d.parameters.length) = some 2 := by decide +kernel
theorem pd21 : (parseMethodDescriptor "(IZ)Z").map (fun d => d.parameters.length) = some 2 := by decide +kernel
theorem pd22 : (parseMethodDescriptor "(I[I)V").map (fun d => d.parameters.length) = some 2 := by decide +kernel
theorem pd23 : (parseMethodDescriptor "(J)J").map (fun d => d.parameters.length) = some 1 := by decide +kernel
theorem pd24 : (parseMethodDescriptor "(J)V").map (fun d => d.parameters.length) = some 1 := by decide +kernel
theorem pd25 : (parseMethodDescriptor "(J)Z").map (fun d => d.parameters.length) = some 1 := by decide +kernel
theorem pd26 : (parseMethodDescriptor "(JJ)J").map (fun d => d.parameters.length) = some 2 := by decide +kernel
theorem pd27 : (parseMethodDescriptor "(J[J)Z").map (fun d => d.parameters.length) = some 2 := by decide +kernel
theorem pd28 : (parseMethodDescriptor "(LJustMoves$Fraction;)I").map (fun d => d.parameters.length) = some 1 := by decide +kernel
theorem pd29 : (parseMethodDescriptor "(LJustMoves$Score;LJustMoves$Ratios;)V").map (fun d => d.parameters.length) = some 2 := by decide +kernel
theorem pd30 : (parseMethodDescriptor "(LJustMoves$Score;LJustMoves$Ratios;LJustMoves$Readings;LJustMoves$Choice;)V").map (fun d => d.parameters.length) = some 4 := by decide +kernel
theorem pd31 : (parseMethodDescriptor "(LJustMoves$Score;LJustMoves$Readings;LJustMoves$Choice;[I)V").map (fun d => d.parameters.length) = some 4 := by decide +kernel
theorem pd32 : (parseMethodDescriptor "(LJustMoves$Score;LJustMoves$Readings;[I)V").map (fun d => d.parameters.length) = some 3 := by decide +kernel
theorem pd33 : (parseMethodDescriptor "(LJustMoves$Squares;)V").map (fun d => d.parameters.length) = some 1 := by decide +kernel
theorem pd34 : (parseMethodDescriptor "(LJustMoves$Whole;)I").map (fun d => d.parameters.length) = some 1 := by decide +kernel
theorem pd35 : (parseMethodDescriptor "(LJustMoves$Whole;)V").map (fun d => d.parameters.length) = some 1 := by decide +kernel
theorem pd36 : (parseMethodDescriptor "(LJustMoves$Whole;LJustMoves$Whole;)V").map (fun d => d.parameters.length) = some 2 := by decide +kernel
theorem pd37 : (parseMethodDescriptor "(LJustMoves$Whole;LJustMoves$Whole;I)V").map (fun d => d.parameters.length) = some 3 := by decide +kernel
theorem pd38 : (parseMethodDescriptor "(Z)I").map (fun d => d.parameters.length) = some 1 := by decide +kernel
theorem pd39 : (parseMethodDescriptor "([I)Z").map (fun d => d.parameters.length) = some 1 := by decide +kernel
theorem pd40 : (parseMethodDescriptor "([II)V").map (fun d => d.parameters.length) = some 2 := by decide +kernel
theorem pd41 : (parseMethodDescriptor "([JJ)V").map (fun d => d.parameters.length) = some 2 := by decide +kernel
theorem pkX0 : plainName RX0 = true := by decide +kernel
theorem pkX1 : plainName RX1 = true := by decide +kernel
theorem pkX2 : plainName RX2 = true := by decide +kernel
theorem pkX3 : plainName RX3 = true := by decide +kernel
theorem pkX4 : plainName RX4 = true := by decide +kernel
theorem pkX5 : plainName RX5 = true := by decide +kernel
theorem pkX6 : plainName RX6 = true := by decide +kernel
theorem pkX7 : plainName RX7 = true := by decide +kernel
theorem pkX8 : plainName RX8 = true := by decide +kernel
theorem pkX9 : plainName RX9 = true := by decide +kernel
theorem pkX10 : plainName RX10 = true := by decide +kernel
theorem pkX11 : plainName RX11 = true := by decide +kernel
def mX0_init : aMd := (yX0_init, cX0_init, 5, none, { frames := 1, cells := 3, slots := 248, locals := 20 })
theorem wmX0_init : aWm mX0_init := ⟨aI2 31 rfl rfl, aI1 10 rfl rfl, by decide, by decide⟩
theorem pnX0_init : aPn mX0_init 4 := pd30
theorem plX0_init : plainFor mX0_init.1 = true := plainFor_of_name pkX0
theorem wiX0_init : Cond.instanceMethod mX0_init.1 ∈ aTb := aI2 30 rfl rfl
def mX0_make : aMd := (yX0_make, cX0_make, 2, none, { frames := 5, cells := 0, slots := 0, locals := 119 })
theorem wmX0_make : aWm mX0_make := ⟨aI3 189 rfl rfl, aI1 10 rfl rfl, by decide, by decide⟩
theorem pnX0_make : aPn mX0_make 0 := pd2
theorem plX0_make : plainFor mX0_make.1 = true := plainFor_of_name pkX0
theorem wiX0_make : Cond.instanceMethod mX0_make.1 ∈ aTb := aI3 187 rfl rfl
theorem wlX0_make : Cond.selects mX0_make.1.cls mX0_make.1 mX0_make.1 ∈ aTb := aI3 188 rfl rfl
def mX0_begin : aMd := (yX0_begin, cX0_begin, 3, none, { frames := 0, cells := 0, slots := 0, locals := 0 })
theorem wmX0_begin : aWm mX0_begin := ⟨aI3 205 rfl rfl, aI1 10 rfl rfl, by decide, by decide⟩
theorem pnX0_begin : aPn mX0_begin 1 := pd4
theorem plX0_begin : plainFor mX0_begin.1 = true := plainFor_of_name pkX0
theorem wiX0_begin : Cond.instanceMethod mX0_begin.1 ∈ aTb := aI3 204 rfl rfl
theorem wlX0_begin : Cond.selects mX0_begin.1.cls mX0_begin.1 mX0_begin.1 ∈ aTb := aJ 19 rfl rfl
def mX0_goOn : aMd := (yX0_goOn, cX0_goOn, 3, none, { frames := 4, cells := 0, slots := 0, locals := 97 })
theorem wmX0_goOn : aWm mX0_goOn := ⟨aI3 194 rfl rfl, aI1 10 rfl rfl, by decide, by decide⟩
theorem pnX0_goOn : aPn mX0_goOn 2 := pd8
theorem plX0_goOn : plainFor mX0_goOn.1 = true := plainFor_of_name pkX0
theorem wiX0_goOn : Cond.instanceMethod mX0_goOn.1 ∈ aTb := aI3 193 rfl rfl
theorem wlX0_goOn : Cond.selects mX0_goOn.1.cls mX0_goOn.1 mX0_goOn.1 ∈ aTb := aJ 17 rfl rfl
def mX0_multiply : aMd := (yX0_multiply, cX0_multiply, 7, none, { frames := 3, cells := 0, slots := 0, locals := 71 })
theorem wmX0_multiply : aWm mX0_multiply := ⟨aI3 199 rfl rfl, aI1 10 rfl rfl, by decide, by decide⟩
theorem pnX0_multiply : aPn mX0_multiply 4 := pd15
theorem plX0_multiply : plainFor mX0_multiply.1 = true := plainFor_of_name pkX0
theorem wiX0_multiply : Cond.instanceMethod mX0_multiply.1 ∈ aTb := aI3 198 rfl rfl
theorem wlX0_multiply : Cond.selects mX0_multiply.1.cls mX0_multiply.1 mX0_multiply.1 ∈ aTb := aJ 18 rfl rfl
def mX0_driftOf : aMd := (yX0_driftOf, cX0_driftOf, 4, some .int, { frames := 1, cells := 0, slots := 0, locals := 21 })
theorem wmX0_driftOf : aWm mX0_driftOf := ⟨aI3 209 rfl rfl, aI1 10 rfl rfl, by decide, by decide⟩
theorem pnX0_driftOf : aPn mX0_driftOf 1 := pd3
theorem plX0_driftOf : plainFor mX0_driftOf.1 = true := plainFor_of_name pkX0
theorem wiX0_driftOf : Cond.instanceMethod mX0_driftOf.1 ∈ aTb := aI3 208 rfl rfl
theorem wlX0_driftOf : Cond.selects mX0_driftOf.1.cls mX0_driftOf.1 mX0_driftOf.1 ∈ aTb := aJ 20 rfl rfl
def mX0_findPump : aMd := (yX0_findPump, cX0_findPump, 5, some .boolean, { frames := 2, cells := 0, slots := 0, locals := 43 })
theorem wmX0_findPump : aWm mX0_findPump := ⟨aI5 2 rfl rfl, aI1 10 rfl rfl, by decide, by decide⟩
theorem pnX0_findPump : aPn mX0_findPump 1 := pd5
theorem plX0_findPump : plainFor mX0_findPump.1 = true := plainFor_of_name pkX0
theorem wiX0_findPump : Cond.instanceMethod mX0_findPump.1 ∈ aTb := aI5 0 rfl rfl
theorem wlX0_findPump : Cond.selects mX0_findPump.1.cls mX0_findPump.1 mX0_findPump.1 ∈ aTb := aI5 1 rfl rfl
def mX0_isPump : aMd := (yX0_isPump, cX0_isPump, 3, some .boolean, { frames := 1, cells := 0, slots := 0, locals := 21 })
theorem wmX0_isPump : aWm mX0_isPump := ⟨aI5 6 rfl rfl, aI1 10 rfl rfl, by decide, by decide⟩
theorem pnX0_isPump : aPn mX0_isPump 2 := pd9
theorem plX0_isPump : plainFor mX0_isPump.1 = true := plainFor_of_name pkX0
theorem wiX0_isPump : Cond.instanceMethod mX0_isPump.1 ∈ aTb := aI5 5 rfl rfl
theorem wlX0_isPump : Cond.selects mX0_isPump.1.cls mX0_isPump.1 mX0_isPump.1 ∈ aTb := aJ 47 rfl rfl
def mX0_ofPump : aMd := (yX0_ofPump, cX0_ofPump, 2, some .int, { frames := 0, cells := 0, slots := 0, locals := 0 })
theorem wmX0_ofPump : aWm mX0_ofPump := ⟨aI5 10 rfl rfl, aI1 10 rfl rfl, by decide, by decide⟩
theorem pnX0_ofPump : aPn mX0_ofPump 1 := pd3
theorem plX0_ofPump : plainFor mX0_ofPump.1 = true := plainFor_of_name pkX0
theorem wiX0_ofPump : Cond.instanceMethod mX0_ofPump.1 ∈ aTb := aI5 8 rfl rfl
theorem wlX0_ofPump : Cond.selects mX0_ofPump.1.cls mX0_ofPump.1 mX0_ofPump.1 ∈ aTb := aI5 9 rfl rfl
def mX1_init : aMd := (yX1_init, cX1_init, 4, none, { frames := 1, cells := 7, slots := 2942, locals := 20 })
theorem wmX1_init : aWm mX1_init := ⟨aI1 230 rfl rfl, aI1 9 rfl rfl, by decide, by decide⟩
theorem pnX1_init : aPn mX1_init 3 := pd32
theorem plX1_init : plainFor mX1_init.1 = true := plainFor_of_name pkX1
theorem wiX1_init : Cond.instanceMethod mX1_init.1 ∈ aTb := aI1 229 rfl rfl
def mX1_make : aMd := (yX1_make, cX1_make, 2, some .long, { frames := 5, cells := 0, slots := 0, locals := 118 })
theorem wmX1_make : aWm mX1_make := ⟨aI3 142 rfl rfl, aI1 9 rfl rfl, by decide, by decide⟩
theorem pnX1_make : aPn mX1_make 0 := pd1
theorem plX1_make : plainFor mX1_make.1 = true := plainFor_of_name pkX1
theorem wiX1_make : Cond.instanceMethod mX1_make.1 ∈ aTb := aI3 140 rfl rfl
theorem wlX1_make : Cond.selects mX1_make.1.cls mX1_make.1 mX1_make.1 ∈ aTb := aI3 141 rfl rfl
def mX1_countReadings : aMd := (yX1_countReadings, cX1_countReadings, 2, none, { frames := 3, cells := 0, slots := 0, locals := 68 })
theorem wmX1_countReadings : aWm mX1_countReadings := ⟨aI3 146 rfl rfl, aI1 9 rfl rfl, by decide, by decide⟩
theorem pnX1_countReadings : aPn mX1_countReadings 0 := pd2
theorem plX1_countReadings : plainFor mX1_countReadings.1 = true := plainFor_of_name pkX1
theorem wiX1_countReadings : Cond.instanceMethod mX1_countReadings.1 ∈ aTb := aI3 145 rfl rfl
theorem wlX1_countReadings : Cond.selects mX1_countReadings.1.cls mX1_countReadings.1 mX1_countReadings.1 ∈ aTb := aJ 10 rfl rfl
def mX1_weighReadings : aMd := (yX1_weighReadings, cX1_weighReadings, 3, none, { frames := 3, cells := 0, slots := 0, locals := 71 })
theorem wmX1_weighReadings : aWm mX1_weighReadings := ⟨aI3 152 rfl rfl, aI1 9 rfl rfl, by decide, by decide⟩
theorem pnX1_weighReadings : aPn mX1_weighReadings 1 := pd4
theorem plX1_weighReadings : plainFor mX1_weighReadings.1 = true := plainFor_of_name pkX1
theorem wiX1_weighReadings : Cond.instanceMethod mX1_weighReadings.1 ∈ aTb := aI3 151 rfl rfl
theorem wlX1_weighReadings : Cond.selects mX1_weighReadings.1.cls mX1_weighReadings.1 mX1_weighReadings.1 ∈ aTb := aJ 11 rfl rfl
def mX1_joinNext : aMd := (yX1_joinNext, cX1_joinNext, 3, none, { frames := 4, cells := 0, slots := 0, locals := 96 })
theorem wmX1_joinNext : aWm mX1_joinNext := ⟨aI3 158 rfl rfl, aI1 9 rfl rfl, by decide, by decide⟩
theorem pnX1_joinNext : aPn mX1_joinNext 1 := pd4
theorem plX1_joinNext : plainFor mX1_joinNext.1 = true := plainFor_of_name pkX1
theorem wiX1_joinNext : Cond.instanceMethod mX1_joinNext.1 ∈ aTb := aI3 157 rfl rfl
theorem wlX1_joinNext : Cond.selects mX1_joinNext.1.cls mX1_joinNext.1 mX1_joinNext.1 ∈ aTb := aJ 12 rfl rfl
def mX1_fillOffsets : aMd := (yX1_fillOffsets, cX1_fillOffsets, 6, none, { frames := 3, cells := 0, slots := 0, locals := 71 })
theorem wmX1_fillOffsets : aWm mX1_fillOffsets := ⟨aI3 166 rfl rfl, aI1 9 rfl rfl, by decide, by decide⟩
theorem pnX1_fillOffsets : aPn mX1_fillOffsets 2 := pd22
theorem plX1_fillOffsets : plainFor mX1_fillOffsets.1 = true := plainFor_of_name pkX1
theorem wiX1_fillOffsets : Cond.instanceMethod mX1_fillOffsets.1 ∈ aTb := aI3 165 rfl rfl
theorem wlX1_fillOffsets : Cond.selects mX1_fillOffsets.1.cls mX1_fillOffsets.1 mX1_fillOffsets.1 ∈ aTb := aJ 13 rfl rfl
def mX1_joinReading : aMd := (yX1_joinReading, cX1_joinReading, 9, none, { frames := 1, cells := 0, slots := 0, locals := 30 })
theorem wmX1_joinReading : aWm mX1_joinReading := ⟨aI3 175 rfl rfl, aI1 9 rfl rfl, by decide, by decide⟩
theorem pnX1_joinReading : aPn mX1_joinReading 2 := pd8
theorem plX1_joinReading : plainFor mX1_joinReading.1 = true := plainFor_of_name pkX1
theorem wiX1_joinReading : Cond.instanceMethod mX1_joinReading.1 ∈ aTb := aI3 174 rfl rfl
theorem wlX1_joinReading : Cond.selects mX1_joinReading.1.cls mX1_joinReading.1 mX1_joinReading.1 ∈ aTb := aJ 14 rfl rfl
def mX1_strain : aMd := (yX1_strain, cX1_strain, 11, some .long, { frames := 0, cells := 0, slots := 0, locals := 0 })
theorem wmX1_strain : aWm mX1_strain := ⟨aI3 180 rfl rfl, aI1 9 rfl rfl, by decide, by decide⟩
theorem pnX1_strain : aPn mX1_strain 2 := pd7
theorem plX1_strain : plainFor mX1_strain.1 = true := plainFor_of_name pkX1
theorem wiX1_strain : Cond.instanceMethod mX1_strain.1 ∈ aTb := aI3 179 rfl rfl
theorem wlX1_strain : Cond.selects mX1_strain.1.cls mX1_strain.1 mX1_strain.1 ∈ aTb := aJ 15 rfl rfl
def mX1_followLeast : aMd := (yX1_followLeast, cX1_followLeast, 5, some .long, { frames := 0, cells := 0, slots := 0, locals := 0 })
theorem wmX1_followLeast : aWm mX1_followLeast := ⟨aI3 185 rfl rfl, aI1 9 rfl rfl, by decide, by decide⟩
theorem pnX1_followLeast : aPn mX1_followLeast 0 := pd1
theorem plX1_followLeast : plainFor mX1_followLeast.1 = true := plainFor_of_name pkX1
theorem wiX1_followLeast : Cond.instanceMethod mX1_followLeast.1 ∈ aTb := aI3 184 rfl rfl
theorem wlX1_followLeast : Cond.selects mX1_followLeast.1.cls mX1_followLeast.1 mX1_followLeast.1 ∈ aTb := aJ 16 rfl rfl
def mX2_init : aMd := (yX2_init, cX2_init, 1, none, { frames := 2, cells := 8, slots := 56, locals := 40 })
theorem wmX2_init : aWm mX2_init := ⟨aI1 154 rfl rfl, aI1 4 rfl rfl, by decide, by decide⟩
theorem pnX2_init : aPn mX2_init 0 := pd2
theorem plX2_init : plainFor mX2_init.1 = true := plainFor_of_name pkX2
theorem wiX2_init : Cond.instanceMethod mX2_init.1 ∈ aTb := aI1 153 rfl rfl
def mX2_take : aMd := (yX2_take, cX2_take, 3, none, { frames := 2, cells := 0, slots := 0, locals := 70 })
theorem wmX2_take : aWm mX2_take := ⟨aI4 114 rfl rfl, aI1 4 rfl rfl, by decide, by decide⟩
theorem pnX2_take : aPn mX2_take 2 := pd36
theorem plX2_take : plainFor mX2_take.1 = true := plainFor_of_name pkX2
theorem wiX2_take : Cond.instanceMethod mX2_take.1 ∈ aTb := aI4 112 rfl rfl
theorem wlX2_take : Cond.selects mX2_take.1.cls mX2_take.1 mX2_take.1 ∈ aTb := aI4 113 rfl rfl
def mX2_addWhole : aMd := (yX2_addWhole, cX2_addWhole, 2, none, { frames := 2, cells := 0, slots := 0, locals := 70 })
theorem wmX2_addWhole : aWm mX2_addWhole := ⟨aI4 127 rfl rfl, aI1 4 rfl rfl, by decide, by decide⟩
theorem pnX2_addWhole : aPn mX2_addWhole 1 := pd4
theorem plX2_addWhole : plainFor mX2_addWhole.1 = true := plainFor_of_name pkX2
theorem wiX2_addWhole : Cond.instanceMethod mX2_addWhole.1 ∈ aTb := aI4 125 rfl rfl
theorem wlX2_addWhole : Cond.selects mX2_addWhole.1.cls mX2_addWhole.1 mX2_addWhole.1 ∈ aTb := aI4 126 rfl rfl
def mX2_bringToLowestTerms : aMd := (yX2_bringToLowestTerms, cX2_bringToLowestTerms, 2, none, { frames := 3, cells := 0, slots := 0, locals := 93 })
theorem wmX2_bringToLowestTerms : aWm mX2_bringToLowestTerms := ⟨aI4 153 rfl rfl, aI1 4 rfl rfl, by decide, by decide⟩
theorem pnX2_bringToLowestTerms : aPn mX2_bringToLowestTerms 0 := pd2
theorem plX2_bringToLowestTerms : plainFor mX2_bringToLowestTerms.1 = true := plainFor_of_name pkX2
theorem wiX2_bringToLowestTerms : Cond.instanceMethod mX2_bringToLowestTerms.1 ∈ aTb := aI4 151 rfl rfl
theorem wlX2_bringToLowestTerms : Cond.selects mX2_bringToLowestTerms.1.cls mX2_bringToLowestTerms.1 mX2_bringToLowestTerms.1 ∈ aTb := aI4 152 rfl rfl
def mX2_findOddDivisor : aMd := (yX2_findOddDivisor, cX2_findOddDivisor, 4, none, { frames := 2, cells := 0, slots := 0, locals := 70 })
theorem wmX2_findOddDivisor : aWm mX2_findOddDivisor := ⟨aI4 178 rfl rfl, aI1 4 rfl rfl, by decide, by decide⟩
theorem pnX2_findOddDivisor : aPn mX2_findOddDivisor 0 := pd2
theorem plX2_findOddDivisor : plainFor mX2_findOddDivisor.1 = true := plainFor_of_name pkX2
theorem wiX2_findOddDivisor : Cond.instanceMethod mX2_findOddDivisor.1 ∈ aTb := aI4 177 rfl rfl
theorem wlX2_findOddDivisor : Cond.selects mX2_findOddDivisor.1.cls mX2_findOddDivisor.1 mX2_findOddDivisor.1 ∈ aTb := aJ 42 rfl rfl
def mX2_rounded : aMd := (yX2_rounded, cX2_rounded, 2, some .int, { frames := 3, cells := 0, slots := 0, locals := 92 })
theorem wmX2_rounded : aWm mX2_rounded := ⟨aI4 221 rfl rfl, aI1 4 rfl rfl, by decide, by decide⟩
theorem pnX2_rounded : aPn mX2_rounded 0 := pd0
theorem plX2_rounded : plainFor mX2_rounded.1 = true := plainFor_of_name pkX2
theorem wiX2_rounded : Cond.instanceMethod mX2_rounded.1 ∈ aTb := aI4 219 rfl rfl
theorem wlX2_rounded : Cond.selects mX2_rounded.1.cls mX2_rounded.1 mX2_rounded.1 ∈ aTb := aI4 220 rfl rfl
def mX2_quotientOfSizes : aMd := (yX2_quotientOfSizes, cX2_quotientOfSizes, 3, some .int, { frames := 2, cells := 0, slots := 0, locals := 70 })
theorem wmX2_quotientOfSizes : aWm mX2_quotientOfSizes := ⟨aI4 225 rfl rfl, aI1 4 rfl rfl, by decide, by decide⟩
theorem pnX2_quotientOfSizes : aPn mX2_quotientOfSizes 0 := pd0
theorem plX2_quotientOfSizes : plainFor mX2_quotientOfSizes.1 = true := plainFor_of_name pkX2
theorem wiX2_quotientOfSizes : Cond.instanceMethod mX2_quotientOfSizes.1 ∈ aTb := aI4 224 rfl rfl
theorem wlX2_quotientOfSizes : Cond.selects mX2_quotientOfSizes.1.cls mX2_quotientOfSizes.1 mX2_quotientOfSizes.1 ∈ aTb := aJ 46 rfl rfl
def mX3_init : aMd := (yX3_init, cX3_init, 2, none, { frames := 3, cells := 5, slots := 345, locals := 72 })
theorem wmX3_init : aWm mX3_init := ⟨aI1 29 rfl rfl, aI1 2 rfl rfl, by decide, by decide⟩
theorem pnX3_init : aPn mX3_init 0 := pd2
theorem plX3_init : plainFor mX3_init.1 = true := plainFor_of_name pkX3
theorem wiX3_init : Cond.instanceMethod mX3_init.1 ∈ aTb := aI1 28 rfl rfl
def mX3_isAllowed : aMd := (yX3_isAllowed, cX3_isAllowed, 2, some .boolean, { frames := 1, cells := 0, slots := 0, locals := 23 })
theorem wmX3_isAllowed : aWm mX3_isAllowed := ⟨aI3 21 rfl rfl, aI1 2 rfl rfl, by decide, by decide⟩
theorem pnX3_isAllowed : aPn mX3_isAllowed 2 := pd9
theorem plX3_isAllowed : plainFor mX3_isAllowed.1 = true := plainFor_of_name pkX3
theorem wsX3_isAllowed : Cond.static mX3_isAllowed.1 ∈ aTb := aI3 20 rfl rfl
def mX3_hasSmallPrimes : aMd := (yX3_hasSmallPrimes, cX3_hasSmallPrimes, 4, some .boolean, { frames := 0, cells := 0, slots := 0, locals := 0 })
theorem wmX3_hasSmallPrimes : aWm mX3_hasSmallPrimes := ⟨aI3 24 rfl rfl, aI1 2 rfl rfl, by decide, by decide⟩
theorem pnX3_hasSmallPrimes : aPn mX3_hasSmallPrimes 1 := pd5
theorem plX3_hasSmallPrimes : plainFor mX3_hasSmallPrimes.1 = true := plainFor_of_name pkX3
theorem wsX3_hasSmallPrimes : Cond.static mX3_hasSmallPrimes.1 ∈ aTb := aI3 23 rfl rfl
def mX3_shareSmallPrime : aMd := (yX3_shareSmallPrime, cX3_shareSmallPrime, 3, some .boolean, { frames := 0, cells := 0, slots := 0, locals := 0 })
theorem wmX3_shareSmallPrime : aWm mX3_shareSmallPrime := ⟨aI3 27 rfl rfl, aI1 2 rfl rfl, by decide, by decide⟩
theorem pnX3_shareSmallPrime : aPn mX3_shareSmallPrime 2 := pd9
theorem plX3_shareSmallPrime : plainFor mX3_shareSmallPrime.1 = true := plainFor_of_name pkX3
theorem wsX3_shareSmallPrime : Cond.static mX3_shareSmallPrime.1 ∈ aTb := aI3 26 rfl rfl
def mX3_powerIn : aMd := (yX3_powerIn, cX3_powerIn, 4, some .int, { frames := 0, cells := 0, slots := 0, locals := 0 })
theorem wmX3_powerIn : aWm mX3_powerIn := ⟨aI1 47 rfl rfl, aI1 2 rfl rfl, by decide, by decide⟩
theorem pnX3_powerIn : aPn mX3_powerIn 2 := pd6
theorem plX3_powerIn : plainFor mX3_powerIn.1 = true := plainFor_of_name pkX3
theorem wsX3_powerIn : Cond.static mX3_powerIn.1 ∈ aTb := aI1 46 rfl rfl
def mX3_holds : aMd := (yX3_holds, cX3_holds, 6, some .boolean, { frames := 0, cells := 0, slots := 0, locals := 0 })
theorem wmX3_holds : aWm mX3_holds := ⟨aI3 31 rfl rfl, aI1 2 rfl rfl, by decide, by decide⟩
theorem pnX3_holds : aPn mX3_holds 3 := pd13
theorem plX3_holds : plainFor mX3_holds.1 = true := plainFor_of_name pkX3
theorem wiX3_holds : Cond.instanceMethod mX3_holds.1 ∈ aTb := aI3 29 rfl rfl
theorem wlX3_holds : Cond.selects mX3_holds.1.cls mX3_holds.1 mX3_holds.1 ∈ aTb := aI3 30 rfl rfl
def mX3_append : aMd := (yX3_append, cX3_append, 5, some .int, { frames := 2, cells := 0, slots := 0, locals := 48 })
theorem wmX3_append : aWm mX3_append := ⟨aI1 38 rfl rfl, aI1 2 rfl rfl, by decide, by decide⟩
theorem pnX3_append : aPn mX3_append 3 := pd10
theorem plX3_append : plainFor mX3_append.1 = true := plainFor_of_name pkX3
theorem wiX3_append : Cond.instanceMethod mX3_append.1 ∈ aTb := aI1 36 rfl rfl
theorem wlX3_append : Cond.selects mX3_append.1.cls mX3_append.1 mX3_append.1 ∈ aTb := aI1 37 rfl rfl
def mX3_store : aMd := (yX3_store, cX3_store, 6, none, { frames := 1, cells := 0, slots := 0, locals := 23 })
theorem wmX3_store : aWm mX3_store := ⟨aI1 42 rfl rfl, aI1 2 rfl rfl, by decide, by decide⟩
theorem pnX3_store : aPn mX3_store 3 := pd12
theorem plX3_store : plainFor mX3_store.1 = true := plainFor_of_name pkX3
theorem wiX3_store : Cond.instanceMethod mX3_store.1 ∈ aTb := aI1 41 rfl rfl
theorem wlX3_store : Cond.selects mX3_store.1.cls mX3_store.1 mX3_store.1 ∈ aTb := aJ 0 rfl rfl
def mX3_removeAll : aMd := (yX3_removeAll, cX3_removeAll, 3, some .int, { frames := 0, cells := 0, slots := 0, locals := 0 })
theorem wmX3_removeAll : aWm mX3_removeAll := ⟨aI3 40 rfl rfl, aI1 2 rfl rfl, by decide, by decide⟩
theorem pnX3_removeAll : aPn mX3_removeAll 1 := pd3
theorem plX3_removeAll : plainFor mX3_removeAll.1 = true := plainFor_of_name pkX3
theorem wiX3_removeAll : Cond.instanceMethod mX3_removeAll.1 ∈ aTb := aI3 38 rfl rfl
theorem wlX3_removeAll : Cond.selects mX3_removeAll.1.cls mX3_removeAll.1 mX3_removeAll.1 ∈ aTb := aI3 39 rfl rfl
def mX3_harshness : aMd := (yX3_harshness, cX3_harshness, 6, some .int, { frames := 1, cells := 0, slots := 0, locals := 20 })
theorem wmX3_harshness : aWm mX3_harshness := ⟨aI3 119 rfl rfl, aI1 2 rfl rfl, by decide, by decide⟩
theorem pnX3_harshness : aPn mX3_harshness 2 := pd6
theorem plX3_harshness : plainFor mX3_harshness.1 = true := plainFor_of_name pkX3
theorem wiX3_harshness : Cond.instanceMethod mX3_harshness.1 ∈ aTb := aI3 117 rfl rfl
theorem wlX3_harshness : Cond.selects mX3_harshness.1.cls mX3_harshness.1 mX3_harshness.1 ∈ aTb := aI3 118 rfl rfl
def mX4_init : aMd := (yX4_init, cX4_init, 3, none, { frames := 1, cells := 1, slots := 16, locals := 20 })
theorem wmX4_init : aWm mX4_init := ⟨aI1 212 rfl rfl, aI1 8 rfl rfl, by decide, by decide⟩
theorem pnX4_init : aPn mX4_init 2 := pd29
theorem plX4_init : plainFor mX4_init.1 = true := plainFor_of_name pkX4
theorem wiX4_init : Cond.instanceMethod mX4_init.1 ∈ aTb := aI1 211 rfl rfl
def mX4_has : aMd := (yX4_has, cX4_has, 3, some .boolean, { frames := 3, cells := 0, slots := 0, locals := 68 })
theorem wmX4_has : aWm mX4_has := ⟨aI3 86 rfl rfl, aI1 8 rfl rfl, by decide, by decide⟩
theorem pnX4_has : aPn mX4_has 2 := pd9
theorem plX4_has : plainFor mX4_has.1 = true := plainFor_of_name pkX4
theorem wiX4_has : Cond.instanceMethod mX4_has.1 ∈ aTb := aI3 84 rfl rfl
theorem wlX4_has : Cond.selects mX4_has.1.cls mX4_has.1 mX4_has.1 ∈ aTb := aI3 85 rfl rfl
def mX4_countOf : aMd := (yX4_countOf, cX4_countOf, 5, some .int, { frames := 2, cells := 0, slots := 0, locals := 44 })
theorem wmX4_countOf : aWm mX4_countOf := ⟨aI3 62 rfl rfl, aI1 8 rfl rfl, by decide, by decide⟩
theorem pnX4_countOf : aPn mX4_countOf 1 := pd3
theorem plX4_countOf : plainFor mX4_countOf.1 = true := plainFor_of_name pkX4
theorem wiX4_countOf : Cond.instanceMethod mX4_countOf.1 ∈ aTb := aI3 60 rfl rfl
theorem wlX4_countOf : Cond.selects mX4_countOf.1.cls mX4_countOf.1 mX4_countOf.1 ∈ aTb := aI3 61 rfl rfl
def mX4_leastCount : aMd := (yX4_leastCount, cX4_leastCount, 3, some .int, { frames := 3, cells := 0, slots := 0, locals := 68 })
theorem wmX4_leastCount : aWm mX4_leastCount := ⟨aI3 130 rfl rfl, aI1 8 rfl rfl, by decide, by decide⟩
theorem pnX4_leastCount : aPn mX4_leastCount 0 := pd0
theorem plX4_leastCount : plainFor mX4_leastCount.1 = true := plainFor_of_name pkX4
theorem wiX4_leastCount : Cond.instanceMethod mX4_leastCount.1 ∈ aTb := aI3 128 rfl rfl
theorem wlX4_leastCount : Cond.selects mX4_leastCount.1.cls mX4_leastCount.1 mX4_leastCount.1 ∈ aTb := aI3 129 rfl rfl
def mX4_greatestCount : aMd := (yX4_greatestCount, cX4_greatestCount, 3, some .int, { frames := 3, cells := 0, slots := 0, locals := 68 })
theorem wmX4_greatestCount : aWm mX4_greatestCount := ⟨aI3 136 rfl rfl, aI1 8 rfl rfl, by decide, by decide⟩
theorem pnX4_greatestCount : aPn mX4_greatestCount 0 := pd0
theorem plX4_greatestCount : plainFor mX4_greatestCount.1 = true := plainFor_of_name pkX4
theorem wiX4_greatestCount : Cond.instanceMethod mX4_greatestCount.1 ∈ aTb := aI3 134 rfl rfl
theorem wlX4_greatestCount : Cond.selects mX4_greatestCount.1.cls mX4_greatestCount.1 mX4_greatestCount.1 ∈ aTb := aI3 135 rfl rfl
def mX4_stepsAboveBase : aMd := (yX4_stepsAboveBase, cX4_stepsAboveBase, 3, some .int, { frames := 0, cells := 0, slots := 0, locals := 0 })
theorem wmX4_stepsAboveBase : aWm mX4_stepsAboveBase := ⟨aI3 70 rfl rfl, aI1 8 rfl rfl, by decide, by decide⟩
theorem pnX4_stepsAboveBase : aPn mX4_stepsAboveBase 2 := pd6
theorem plX4_stepsAboveBase : plainFor mX4_stepsAboveBase.1 = true := plainFor_of_name pkX4
theorem wiX4_stepsAboveBase : Cond.instanceMethod mX4_stepsAboveBase.1 ∈ aTb := aI3 69 rfl rfl
theorem wlX4_stepsAboveBase : Cond.selects mX4_stepsAboveBase.1.cls mX4_stepsAboveBase.1 mX4_stepsAboveBase.1 ∈ aTb := aJ 9 rfl rfl
def mX4_typeOf : aMd := (yX4_typeOf, cX4_typeOf, 3, some .int, { frames := 1, cells := 0, slots := 0, locals := 22 })
theorem wmX4_typeOf : aWm mX4_typeOf := ⟨aI3 66 rfl rfl, aI1 8 rfl rfl, by decide, by decide⟩
theorem pnX4_typeOf : aPn mX4_typeOf 2 := pd6
theorem plX4_typeOf : plainFor mX4_typeOf.1 = true := plainFor_of_name pkX4
theorem wiX4_typeOf : Cond.instanceMethod mX4_typeOf.1 ∈ aTb := aI3 65 rfl rfl
theorem wlX4_typeOf : Cond.selects mX4_typeOf.1.cls mX4_typeOf.1 mX4_typeOf.1 ∈ aTb := aJ 8 rfl rfl
def mX4_octavesOf : aMd := (yX4_octavesOf, cX4_octavesOf, 3, some .int, { frames := 1, cells := 0, slots := 0, locals := 22 })
theorem wmX4_octavesOf : aWm mX4_octavesOf := ⟨aI3 107 rfl rfl, aI1 8 rfl rfl, by decide, by decide⟩
theorem pnX4_octavesOf : aPn mX4_octavesOf 2 := pd6
theorem plX4_octavesOf : plainFor mX4_octavesOf.1 = true := plainFor_of_name pkX4
theorem wiX4_octavesOf : Cond.instanceMethod mX4_octavesOf.1 ∈ aTb := aI3 105 rfl rfl
theorem wlX4_octavesOf : Cond.selects mX4_octavesOf.1.cls mX4_octavesOf.1 mX4_octavesOf.1 ∈ aTb := aI3 106 rfl rfl
def mX4_open : aMd := (yX4_open, cX4_open, 8, none, { frames := 2, cells := 0, slots := 0, locals := 44 })
theorem wmX4_open : aWm mX4_open := ⟨aI3 98 rfl rfl, aI1 8 rfl rfl, by decide, by decide⟩
theorem pnX4_open : aPn mX4_open 2 := pd8
theorem plX4_open : plainFor mX4_open.1 = true := plainFor_of_name pkX4
theorem wiX4_open : Cond.instanceMethod mX4_open.1 ∈ aTb := aI3 96 rfl rfl
theorem wlX4_open : Cond.selects mX4_open.1.cls mX4_open.1 mX4_open.1 ∈ aTb := aI3 97 rfl rfl
def mX4_targetOf : aMd := (yX4_targetOf, cX4_targetOf, 3, some .int, { frames := 2, cells := 0, slots := 0, locals := 44 })
theorem wmX4_targetOf : aWm mX4_targetOf := ⟨aI3 102 rfl rfl, aI1 8 rfl rfl, by decide, by decide⟩
theorem pnX4_targetOf : aPn mX4_targetOf 2 := pd6
theorem plX4_targetOf : plainFor mX4_targetOf.1 = true := plainFor_of_name pkX4
theorem wiX4_targetOf : Cond.instanceMethod mX4_targetOf.1 ∈ aTb := aI3 100 rfl rfl
theorem wlX4_targetOf : Cond.selects mX4_targetOf.1.cls mX4_targetOf.1 mX4_targetOf.1 ∈ aTb := aI3 101 rfl rfl
def mX4_deviationOf : aMd := (yX4_deviationOf, cX4_deviationOf, 3, some .int, { frames := 3, cells := 0, slots := 0, locals := 66 })
theorem wmX4_deviationOf : aWm mX4_deviationOf := ⟨aI4 0 rfl rfl, aI1 8 rfl rfl, by decide, by decide⟩
theorem pnX4_deviationOf : aPn mX4_deviationOf 2 := pd6
theorem plX4_deviationOf : plainFor mX4_deviationOf.1 = true := plainFor_of_name pkX4
theorem wiX4_deviationOf : Cond.instanceMethod mX4_deviationOf.1 ∈ aTb := aI3 238 rfl rfl
theorem wlX4_deviationOf : Cond.selects mX4_deviationOf.1.cls mX4_deviationOf.1 mX4_deviationOf.1 ∈ aTb := aI3 239 rfl rfl
def mX4_harshness : aMd := (yX4_harshness, cX4_harshness, 7, some .int, { frames := 2, cells := 0, slots := 0, locals := 45 })
theorem wmX4_harshness : aWm mX4_harshness := ⟨aI3 115 rfl rfl, aI1 8 rfl rfl, by decide, by decide⟩
theorem pnX4_harshness : aPn mX4_harshness 1 := pd3
theorem plX4_harshness : plainFor mX4_harshness.1 = true := plainFor_of_name pkX4
theorem wiX4_harshness : Cond.instanceMethod mX4_harshness.1 ∈ aTb := aI3 113 rfl rfl
theorem wlX4_harshness : Cond.selects mX4_harshness.1.cls mX4_harshness.1 mX4_harshness.1 ∈ aTb := aI3 114 rfl rfl
def mX5_init : aMd := (yX5_init, cX5_init, 1, none, { frames := 1, cells := 11, slots := 876, locals := 20 })
theorem wmX5_init : aWm mX5_init := ⟨aI1 77 rfl rfl, aI1 3 rfl rfl, by decide, by decide⟩
theorem pnX5_init : aPn mX5_init 0 := pd2
theorem plX5_init : plainFor mX5_init.1 = true := plainFor_of_name pkX5
theorem wiX5_init : Cond.instanceMethod mX5_init.1 ∈ aTb := aI1 76 rfl rfl
def mX5_hasNote : aMd := (yX5_hasNote, cX5_hasNote, 2, some .boolean, { frames := 0, cells := 0, slots := 0, locals := 0 })
theorem wmX5_hasNote : aWm mX5_hasNote := ⟨aI3 10 rfl rfl, aI1 3 rfl rfl, by decide, by decide⟩
theorem pnX5_hasNote : aPn mX5_hasNote 1 := pd5
theorem plX5_hasNote : plainFor mX5_hasNote.1 = true := plainFor_of_name pkX5
theorem wiX5_hasNote : Cond.instanceMethod mX5_hasNote.1 ∈ aTb := aI3 8 rfl rfl
theorem wlX5_hasNote : Cond.selects mX5_hasNote.1.cls mX5_hasNote.1 mX5_hasNote.1 ∈ aTb := aI3 9 rfl rfl
def mX5_hasSet : aMd := (yX5_hasSet, cX5_hasSet, 2, some .boolean, { frames := 0, cells := 0, slots := 0, locals := 0 })
theorem wmX5_hasSet : aWm mX5_hasSet := ⟨aI3 58 rfl rfl, aI1 3 rfl rfl, by decide, by decide⟩
theorem pnX5_hasSet : aPn mX5_hasSet 1 := pd5
theorem plX5_hasSet : plainFor mX5_hasSet.1 = true := plainFor_of_name pkX5
theorem wiX5_hasSet : Cond.instanceMethod mX5_hasSet.1 ∈ aTb := aI3 56 rfl rfl
theorem wlX5_hasSet : Cond.selects mX5_hasSet.1.cls mX5_hasSet.1 mX5_hasSet.1 ∈ aTb := aI3 57 rfl rfl
def mX5_isPart : aMd := (yX5_isPart, cX5_isPart, 3, some .boolean, { frames := 2, cells := 0, slots := 0, locals := 44 })
theorem wmX5_isPart : aWm mX5_isPart := ⟨aI3 92 rfl rfl, aI1 3 rfl rfl, by decide, by decide⟩
theorem pnX5_isPart : aPn mX5_isPart 2 := pd9
theorem plX5_isPart : plainFor mX5_isPart.1 = true := plainFor_of_name pkX5
theorem wiX5_isPart : Cond.instanceMethod mX5_isPart.1 ∈ aTb := aI3 90 rfl rfl
theorem wlX5_isPart : Cond.selects mX5_isPart.1.cls mX5_isPart.1 mX5_isPart.1 ∈ aTb := aI3 91 rfl rfl
def mX5_isIn : aMd := (yX5_isIn, cX5_isIn, 3, some .boolean, { frames := 1, cells := 0, slots := 0, locals := 22 })
theorem wmX5_isIn : aWm mX5_isIn := ⟨aI2 230 rfl rfl, aI1 3 rfl rfl, by decide, by decide⟩
theorem pnX5_isIn : aPn mX5_isIn 2 := pd9
theorem plX5_isIn : plainFor mX5_isIn.1 = true := plainFor_of_name pkX5
theorem wiX5_isIn : Cond.instanceMethod mX5_isIn.1 ∈ aTb := aI2 228 rfl rfl
theorem wlX5_isIn : Cond.selects mX5_isIn.1.cls mX5_isIn.1 mX5_isIn.1 ∈ aTb := aI2 229 rfl rfl
def mX5_isAt : aMd := (yX5_isAt, cX5_isAt, 3, some .boolean, { frames := 0, cells := 0, slots := 0, locals := 0 })
theorem wmX5_isAt : aWm mX5_isAt := ⟨aI2 196 rfl rfl, aI1 3 rfl rfl, by decide, by decide⟩
theorem pnX5_isAt : aPn mX5_isAt 2 := pd9
theorem plX5_isAt : plainFor mX5_isAt.1 = true := plainFor_of_name pkX5
theorem wiX5_isAt : Cond.instanceMethod mX5_isAt.1 ∈ aTb := aI2 195 rfl rfl
theorem wlX5_isAt : Cond.selects mX5_isAt.1.cls mX5_isAt.1 mX5_isAt.1 ∈ aTb := aJ 2 rfl rfl
def mX5_equalOf : aMd := (yX5_equalOf, cX5_equalOf, 2, some .int, { frames := 0, cells := 0, slots := 0, locals := 0 })
theorem wmX5_equalOf : aWm mX5_equalOf := ⟨aI4 123 rfl rfl, aI1 3 rfl rfl, by decide, by decide⟩
theorem pnX5_equalOf : aPn mX5_equalOf 1 := pd3
theorem plX5_equalOf : plainFor mX5_equalOf.1 = true := plainFor_of_name pkX5
theorem wiX5_equalOf : Cond.instanceMethod mX5_equalOf.1 ∈ aTb := aI4 121 rfl rfl
theorem wlX5_equalOf : Cond.selects mX5_equalOf.1.cls mX5_equalOf.1 mX5_equalOf.1 ∈ aTb := aI4 122 rfl rfl
def mX5_baseKey : aMd := (yX5_baseKey, cX5_baseKey, 2, some .int, { frames := 0, cells := 0, slots := 0, locals := 0 })
theorem wmX5_baseKey : aWm mX5_baseKey := ⟨aI3 170 rfl rfl, aI1 3 rfl rfl, by decide, by decide⟩
theorem pnX5_baseKey : aPn mX5_baseKey 1 := pd3
theorem plX5_baseKey : plainFor mX5_baseKey.1 = true := plainFor_of_name pkX5
theorem wiX5_baseKey : Cond.instanceMethod mX5_baseKey.1 ∈ aTb := aI3 168 rfl rfl
theorem wlX5_baseKey : Cond.selects mX5_baseKey.1.cls mX5_baseKey.1 mX5_baseKey.1 ∈ aTb := aI3 169 rfl rfl
def mX5_variableOf : aMd := (yX5_variableOf, cX5_variableOf, 3, some .int, { frames := 0, cells := 0, slots := 0, locals := 0 })
theorem wmX5_variableOf : aWm mX5_variableOf := ⟨aI2 234 rfl rfl, aI1 3 rfl rfl, by decide, by decide⟩
theorem pnX5_variableOf : aPn mX5_variableOf 2 := pd6
theorem plX5_variableOf : plainFor mX5_variableOf.1 = true := plainFor_of_name pkX5
theorem wiX5_variableOf : Cond.instanceMethod mX5_variableOf.1 ∈ aTb := aI2 232 rfl rfl
theorem wlX5_variableOf : Cond.selects mX5_variableOf.1.cls mX5_variableOf.1 mX5_variableOf.1 ∈ aTb := aI2 233 rfl rfl
def mX5_isFullFor : aMd := (yX5_isFullFor, cX5_isFullFor, 5, some .boolean, { frames := 2, cells := 0, slots := 0, locals := 45 })
theorem wmX5_isFullFor : aWm mX5_isFullFor := ⟨aI2 188 rfl rfl, aI1 3 rfl rfl, by decide, by decide⟩
theorem pnX5_isFullFor : aPn mX5_isFullFor 2 := pd9
theorem plX5_isFullFor : plainFor mX5_isFullFor.1 = true := plainFor_of_name pkX5
theorem wiX5_isFullFor : Cond.instanceMethod mX5_isFullFor.1 ∈ aTb := aI2 186 rfl rfl
theorem wlX5_isFullFor : Cond.selects mX5_isFullFor.1.cls mX5_isFullFor.1 mX5_isFullFor.1 ∈ aTb := aI2 187 rfl rfl
def mX5_soundingAt : aMd := (yX5_soundingAt, cX5_soundingAt, 4, some .int, { frames := 1, cells := 0, slots := 0, locals := 22 })
theorem wmX5_soundingAt : aWm mX5_soundingAt := ⟨aI2 192 rfl rfl, aI1 3 rfl rfl, by decide, by decide⟩
theorem pnX5_soundingAt : aPn mX5_soundingAt 1 := pd3
theorem plX5_soundingAt : plainFor mX5_soundingAt.1 = true := plainFor_of_name pkX5
theorem wiX5_soundingAt : Cond.instanceMethod mX5_soundingAt.1 ∈ aTb := aI2 191 rfl rfl
theorem wlX5_soundingAt : Cond.selects mX5_soundingAt.1.cls mX5_soundingAt.1 mX5_soundingAt.1 ∈ aTb := aJ 1 rfl rfl
def mX5_append : aMd := (yX5_append, cX5_append, 5, some .int, { frames := 3, cells := 0, slots := 0, locals := 71 })
theorem wmX5_append : aWm mX5_append := ⟨aI2 204 rfl rfl, aI1 3 rfl rfl, by decide, by decide⟩
theorem pnX5_append : aPn mX5_append 3 := pd10
theorem plX5_append : plainFor mX5_append.1 = true := plainFor_of_name pkX5
theorem wiX5_append : Cond.instanceMethod mX5_append.1 ∈ aTb := aI2 202 rfl rfl
theorem wlX5_append : Cond.selects mX5_append.1.cls mX5_append.1 mX5_append.1 ∈ aTb := aI2 203 rfl rfl
def mX5_removeAll : aMd := (yX5_removeAll, cX5_removeAll, 2, some .int, { frames := 0, cells := 0, slots := 0, locals := 0 })
theorem wmX5_removeAll : aWm mX5_removeAll := ⟨aI3 2 rfl rfl, aI1 3 rfl rfl, by decide, by decide⟩
theorem pnX5_removeAll : aPn mX5_removeAll 0 := pd0
theorem plX5_removeAll : plainFor mX5_removeAll.1 = true := plainFor_of_name pkX5
theorem wiX5_removeAll : Cond.instanceMethod mX5_removeAll.1 ∈ aTb := aI3 0 rfl rfl
theorem wlX5_removeAll : Cond.selects mX5_removeAll.1.cls mX5_removeAll.1 mX5_removeAll.1 ∈ aTb := aI3 1 rfl rfl
def mX5_tie : aMd := (yX5_tie, cX5_tie, 4, some .boolean, { frames := 3, cells := 0, slots := 0, locals := 67 })
theorem wmX5_tie : aWm mX5_tie := ⟨aI3 14 rfl rfl, aI1 3 rfl rfl, by decide, by decide⟩
theorem pnX5_tie : aPn mX5_tie 2 := pd21
theorem plX5_tie : plainFor mX5_tie.1 = true := plainFor_of_name pkX5
theorem wiX5_tie : Cond.instanceMethod mX5_tie.1 ∈ aTb := aI3 12 rfl rfl
theorem wlX5_tie : Cond.selects mX5_tie.1.cls mX5_tie.1 mX5_tie.1 ∈ aTb := aI3 13 rfl rfl
def mX5_findSets : aMd := (yX5_findSets, cX5_findSets, 4, none, { frames := 2, cells := 0, slots := 0, locals := 48 })
theorem wmX5_findSets : aWm mX5_findSets := ⟨aI2 208 rfl rfl, aI1 3 rfl rfl, by decide, by decide⟩
theorem pnX5_findSets : aPn mX5_findSets 0 := pd2
theorem plX5_findSets : plainFor mX5_findSets.1 = true := plainFor_of_name pkX5
theorem wiX5_findSets : Cond.instanceMethod mX5_findSets.1 ∈ aTb := aI2 207 rfl rfl
theorem wlX5_findSets : Cond.selects mX5_findSets.1.cls mX5_findSets.1 mX5_findSets.1 ∈ aTb := aJ 4 rfl rfl
def mX5_tickAfter : aMd := (yX5_tickAfter, cX5_tickAfter, 4, some .int, { frames := 1, cells := 0, slots := 0, locals := 21 })
theorem wmX5_tickAfter : aWm mX5_tickAfter := ⟨aI2 212 rfl rfl, aI1 3 rfl rfl, by decide, by decide⟩
theorem pnX5_tickAfter : aPn mX5_tickAfter 1 := pd3
theorem plX5_tickAfter : plainFor mX5_tickAfter.1 = true := plainFor_of_name pkX5
theorem wiX5_tickAfter : Cond.instanceMethod mX5_tickAfter.1 ∈ aTb := aI2 211 rfl rfl
theorem wlX5_tickAfter : Cond.selects mX5_tickAfter.1.cls mX5_tickAfter.1 mX5_tickAfter.1 ∈ aTb := aJ 5 rfl rfl
def mX5_appendSet : aMd := (yX5_appendSet, cX5_appendSet, 7, none, { frames := 1, cells := 0, slots := 0, locals := 22 })
theorem wmX5_appendSet : aWm mX5_appendSet := ⟨aI2 219 rfl rfl, aI1 3 rfl rfl, by decide, by decide⟩
theorem pnX5_appendSet : aPn mX5_appendSet 2 := pd8
theorem plX5_appendSet : plainFor mX5_appendSet.1 = true := plainFor_of_name pkX5
theorem wiX5_appendSet : Cond.instanceMethod mX5_appendSet.1 ∈ aTb := aI2 218 rfl rfl
theorem wlX5_appendSet : Cond.selects mX5_appendSet.1.cls mX5_appendSet.1 mX5_appendSet.1 ∈ aTb := aJ 6 rfl rfl
def mX5_numberVariables : aMd := (yX5_numberVariables, cX5_numberVariables, 4, none, { frames := 2, cells := 0, slots := 0, locals := 44 })
theorem wmX5_numberVariables : aWm mX5_numberVariables := ⟨aI2 226 rfl rfl, aI1 3 rfl rfl, by decide, by decide⟩
theorem pnX5_numberVariables : aPn mX5_numberVariables 0 := pd2
theorem plX5_numberVariables : plainFor mX5_numberVariables.1 = true := plainFor_of_name pkX5
theorem wiX5_numberVariables : Cond.instanceMethod mX5_numberVariables.1 ∈ aTb := aI2 225 rfl rfl
theorem wlX5_numberVariables : Cond.selects mX5_numberVariables.1.cls mX5_numberVariables.1 mX5_numberVariables.1 ∈ aTb := aJ 7 rfl rfl
def mX5_findCommon : aMd := (yX5_findCommon, cX5_findCommon, 4, none, { frames := 2, cells := 0, slots := 0, locals := 44 })
theorem wmX5_findCommon : aWm mX5_findCommon := ⟨aI3 162 rfl rfl, aI1 3 rfl rfl, by decide, by decide⟩
theorem pnX5_findCommon : aPn mX5_findCommon 1 := pd4
theorem plX5_findCommon : plainFor mX5_findCommon.1 = true := plainFor_of_name pkX5
theorem wiX5_findCommon : Cond.instanceMethod mX5_findCommon.1 ∈ aTb := aI3 160 rfl rfl
theorem wlX5_findCommon : Cond.selects mX5_findCommon.1.cls mX5_findCommon.1 mX5_findCommon.1 ∈ aTb := aI3 161 rfl rfl
def mX6_init : aMd := (yX6_init, cX6_init, 3, none, { frames := 2, cells := 81, slots := 1056, locals := 40 })
theorem wmX6_init : aWm mX6_init := ⟨aI2 112 rfl rfl, aI1 12 rfl rfl, by decide, by decide⟩
theorem pnX6_init : aPn mX6_init 1 := pd33
theorem plX6_init : plainFor mX6_init.1 = true := plainFor_of_name pkX6
theorem wiX6_init : Cond.instanceMethod mX6_init.1 ∈ aTb := aI2 111 rfl rfl
def mX6_run : aMd := (yX6_run, cX6_run, 2, none, { frames := 3, cells := 0, slots := 0, locals := 89 })
theorem wmX6_run : aWm mX6_run := ⟨aI4 36 rfl rfl, aI1 12 rfl rfl, by decide, by decide⟩
theorem pnX6_run : aPn mX6_run 0 := pd2
theorem plX6_run : plainFor mX6_run.1 = true := plainFor_of_name pkX6
theorem wiX6_run : Cond.instanceMethod mX6_run.1 ∈ aTb := aI4 34 rfl rfl
theorem wlX6_run : Cond.selects mX6_run.1.cls mX6_run.1 mX6_run.1 ∈ aTb := aI4 35 rfl rfl
def mX6_useModulus : aMd := (yX6_useModulus, cX6_useModulus, 6, none, { frames := 1, cells := 0, slots := 0, locals := 28 })
theorem wmX6_useModulus : aWm mX6_useModulus := ⟨aI4 73 rfl rfl, aI1 12 rfl rfl, by decide, by decide⟩
theorem pnX6_useModulus : aPn mX6_useModulus 1 := pd24
theorem plX6_useModulus : plainFor mX6_useModulus.1 = true := plainFor_of_name pkX6
theorem wiX6_useModulus : Cond.instanceMethod mX6_useModulus.1 ∈ aTb := aI4 72 rfl rfl
theorem wlX6_useModulus : Cond.selects mX6_useModulus.1.cls mX6_useModulus.1 mX6_useModulus.1 ∈ aTb := aJ 36 rfl rfl
def mX6_solveBy : aMd := (yX6_solveBy, cX6_solveBy, 11, some .boolean, { frames := 2, cells := 0, slots := 0, locals := 59 })
theorem wmX6_solveBy : aWm mX6_solveBy := ⟨aI4 42 rfl rfl, aI1 12 rfl rfl, by decide, by decide⟩
theorem pnX6_solveBy : aPn mX6_solveBy 2 := pd27
theorem plX6_solveBy : plainFor mX6_solveBy.1 = true := plainFor_of_name pkX6
theorem wiX6_solveBy : Cond.instanceMethod mX6_solveBy.1 ∈ aTb := aI4 41 rfl rfl
theorem wlX6_solveBy : Cond.selects mX6_solveBy.1.cls mX6_solveBy.1 mX6_solveBy.1 ∈ aTb := aJ 30 rfl rfl
def mX6_load : aMd := (yX6_load, cX6_load, 6, none, { frames := 1, cells := 0, slots := 0, locals := 25 })
theorem wmX6_load : aWm mX6_load := ⟨aI4 46 rfl rfl, aI1 12 rfl rfl, by decide, by decide⟩
theorem pnX6_load : aPn mX6_load 1 := pd24
theorem plX6_load : plainFor mX6_load.1 = true := plainFor_of_name pkX6
theorem wiX6_load : Cond.instanceMethod mX6_load.1 ∈ aTb := aI4 45 rfl rfl
theorem wlX6_load : Cond.selects mX6_load.1.cls mX6_load.1 mX6_load.1 ∈ aTb := aJ 31 rfl rfl
def mX6_eliminate : aMd := (yX6_eliminate, cX6_eliminate, 11, some .long, { frames := 1, cells := 0, slots := 0, locals := 29 })
theorem wmX6_eliminate : aWm mX6_eliminate := ⟨aI4 53 rfl rfl, aI1 12 rfl rfl, by decide, by decide⟩
theorem pnX6_eliminate : aPn mX6_eliminate 1 := pd23
theorem plX6_eliminate : plainFor mX6_eliminate.1 = true := plainFor_of_name pkX6
theorem wiX6_eliminate : Cond.instanceMethod mX6_eliminate.1 ∈ aTb := aI4 52 rfl rfl
theorem wlX6_eliminate : Cond.selects mX6_eliminate.1.cls mX6_eliminate.1 mX6_eliminate.1 ∈ aTb := aJ 32 rfl rfl
def mX6_findRow : aMd := (yX6_findRow, cX6_findRow, 3, some .int, { frames := 0, cells := 0, slots := 0, locals := 0 })
theorem wmX6_findRow : aWm mX6_findRow := ⟨aI4 57 rfl rfl, aI1 12 rfl rfl, by decide, by decide⟩
theorem pnX6_findRow : aPn mX6_findRow 1 := pd3
theorem plX6_findRow : plainFor mX6_findRow.1 = true := plainFor_of_name pkX6
theorem wiX6_findRow : Cond.instanceMethod mX6_findRow.1 ∈ aTb := aI4 56 rfl rfl
theorem wlX6_findRow : Cond.selects mX6_findRow.1.cls mX6_findRow.1 mX6_findRow.1 ∈ aTb := aJ 33 rfl rfl
def mX6_swapRows : aMd := (yX6_swapRows, cX6_swapRows, 6, none, { frames := 0, cells := 0, slots := 0, locals := 0 })
theorem wmX6_swapRows : aWm mX6_swapRows := ⟨aI4 61 rfl rfl, aI1 12 rfl rfl, by decide, by decide⟩
theorem pnX6_swapRows : aPn mX6_swapRows 2 := pd8
theorem plX6_swapRows : plainFor mX6_swapRows.1 = true := plainFor_of_name pkX6
theorem wiX6_swapRows : Cond.instanceMethod mX6_swapRows.1 ∈ aTb := aI4 60 rfl rfl
theorem wlX6_swapRows : Cond.selects mX6_swapRows.1.cls mX6_swapRows.1 mX6_swapRows.1 ∈ aTb := aJ 34 rfl rfl
def mX6_subtractRow : aMd := (yX6_subtractRow, cX6_subtractRow, 10, none, { frames := 0, cells := 0, slots := 0, locals := 0 })
theorem wmX6_subtractRow : aWm mX6_subtractRow := ⟨aI4 69 rfl rfl, aI1 12 rfl rfl, by decide, by decide⟩
theorem pnX6_subtractRow : aPn mX6_subtractRow 3 := pd16
theorem plX6_subtractRow : plainFor mX6_subtractRow.1 = true := plainFor_of_name pkX6
theorem wiX6_subtractRow : Cond.instanceMethod mX6_subtractRow.1 ∈ aTb := aI4 68 rfl rfl
theorem wlX6_subtractRow : Cond.selects mX6_subtractRow.1.cls mX6_subtractRow.1 mX6_subtractRow.1 ∈ aTb := aJ 35 rfl rfl
def mX6_inverse : aMd := (yX6_inverse, cX6_inverse, 9, some .long, { frames := 0, cells := 0, slots := 0, locals := 0 })
theorem wmX6_inverse : aWm mX6_inverse := ⟨aI4 64 rfl rfl, aI1 12 rfl rfl, by decide, by decide⟩
theorem pnX6_inverse : aPn mX6_inverse 2 := pd26
theorem plX6_inverse : plainFor mX6_inverse.1 = true := plainFor_of_name pkX6
theorem wsX6_inverse : Cond.static mX6_inverse.1 ∈ aTb := aI4 63 rfl rfl
def mX6_putTogether : aMd := (yX6_putTogether, cX6_putTogether, 5, none, { frames := 2, cells := 0, slots := 0, locals := 54 })
theorem wmX6_putTogether : aWm mX6_putTogether := ⟨aI4 77 rfl rfl, aI1 12 rfl rfl, by decide, by decide⟩
theorem pnX6_putTogether : aPn mX6_putTogether 1 := pd4
theorem plX6_putTogether : plainFor mX6_putTogether.1 = true := plainFor_of_name pkX6
theorem wiX6_putTogether : Cond.instanceMethod mX6_putTogether.1 ∈ aTb := aI4 76 rfl rfl
theorem wlX6_putTogether : Cond.selects mX6_putTogether.1.cls mX6_putTogether.1 mX6_putTogether.1 ∈ aTb := aJ 37 rfl rfl
def mX6_findDigits : aMd := (yX6_findDigits, cX6_findDigits, 10, none, { frames := 1, cells := 0, slots := 0, locals := 25 })
theorem wmX6_findDigits : aWm mX6_findDigits := ⟨aI4 81 rfl rfl, aI1 12 rfl rfl, by decide, by decide⟩
theorem pnX6_findDigits : aPn mX6_findDigits 2 := pd8
theorem plX6_findDigits : plainFor mX6_findDigits.1 = true := plainFor_of_name pkX6
theorem wiX6_findDigits : Cond.instanceMethod mX6_findDigits.1 ∈ aTb := aI4 80 rfl rfl
theorem wlX6_findDigits : Cond.selects mX6_findDigits.1.cls mX6_findDigits.1 mX6_findDigits.1 ∈ aTb := aJ 38 rfl rfl
def mX7_init : aMd := (yX7_init, cX7_init, 5, none, { frames := 1, cells := 23, slots := 460, locals := 20 })
theorem wmX7_init : aWm mX7_init := ⟨aI2 68 rfl rfl, aI1 11 rfl rfl, by decide, by decide⟩
theorem pnX7_init : aPn mX7_init 4 := pd31
theorem plX7_init : plainFor mX7_init.1 = true := plainFor_of_name pkX7
theorem wiX7_init : Cond.instanceMethod mX7_init.1 ∈ aTb := aI2 67 rfl rfl
def mX7_gather : aMd := (yX7_gather, cX7_gather, 2, none, { frames := 5, cells := 0, slots := 0, locals := 116 })
theorem wmX7_gather : aWm mX7_gather := ⟨aI3 223 rfl rfl, aI1 11 rfl rfl, by decide, by decide⟩
theorem pnX7_gather : aPn mX7_gather 0 := pd2
theorem plX7_gather : plainFor mX7_gather.1 = true := plainFor_of_name pkX7
theorem wiX7_gather : Cond.instanceMethod mX7_gather.1 ∈ aTb := aI3 221 rfl rfl
theorem wlX7_gather : Cond.selects mX7_gather.1.cls mX7_gather.1 mX7_gather.1 ∈ aTb := aI3 222 rfl rfl
def mX7_reset : aMd := (yX7_reset, cX7_reset, 2, none, { frames := 1, cells := 0, slots := 0, locals := 24 })
theorem wmX7_reset : aWm mX7_reset := ⟨aI3 227 rfl rfl, aI1 11 rfl rfl, by decide, by decide⟩
theorem pnX7_reset : aPn mX7_reset 0 := pd2
theorem plX7_reset : plainFor mX7_reset.1 = true := plainFor_of_name pkX7
theorem wiX7_reset : Cond.instanceMethod mX7_reset.1 ∈ aTb := aI3 226 rfl rfl
theorem wlX7_reset : Cond.selects mX7_reset.1.cls mX7_reset.1 mX7_reset.1 ∈ aTb := aJ 21 rfl rfl
def mX7_addChord : aMd := (yX7_addChord, cX7_addChord, 9, none, { frames := 4, cells := 0, slots := 0, locals := 88 })
theorem wmX7_addChord : aWm mX7_addChord := ⟨aI3 235 rfl rfl, aI1 11 rfl rfl, by decide, by decide⟩
theorem pnX7_addChord : aPn mX7_addChord 1 := pd4
theorem plX7_addChord : plainFor mX7_addChord.1 = true := plainFor_of_name pkX7
theorem wiX7_addChord : Cond.instanceMethod mX7_addChord.1 ∈ aTb := aI3 234 rfl rfl
theorem wlX7_addChord : Cond.selects mX7_addChord.1.cls mX7_addChord.1 mX7_addChord.1 ∈ aTb := aJ 22 rfl rfl
def mX7_addMoves : aMd := (yX7_addMoves, cX7_addMoves, 4, none, { frames := 3, cells := 0, slots := 0, locals := 67 })
theorem wmX7_addMoves : aWm mX7_addMoves := ⟨aI4 10 rfl rfl, aI1 11 rfl rfl, by decide, by decide⟩
theorem pnX7_addMoves : aPn mX7_addMoves 1 := pd4
theorem plX7_addMoves : plainFor mX7_addMoves.1 = true := plainFor_of_name pkX7
theorem wiX7_addMoves : Cond.instanceMethod mX7_addMoves.1 ∈ aTb := aI4 9 rfl rfl
theorem wlX7_addMoves : Cond.selects mX7_addMoves.1.cls mX7_addMoves.1 mX7_addMoves.1 ∈ aTb := aJ 24 rfl rfl
def mX7_addEquals : aMd := (yX7_addEquals, cX7_addEquals, 4, none, { frames := 1, cells := 0, slots := 0, locals := 22 })
theorem wmX7_addEquals : aWm mX7_addEquals := ⟨aI4 15 rfl rfl, aI1 11 rfl rfl, by decide, by decide⟩
theorem pnX7_addEquals : aPn mX7_addEquals 1 := pd4
theorem plX7_addEquals : plainFor mX7_addEquals.1 = true := plainFor_of_name pkX7
theorem wiX7_addEquals : Cond.instanceMethod mX7_addEquals.1 ∈ aTb := aI4 14 rfl rfl
theorem wlX7_addEquals : Cond.selects mX7_addEquals.1.cls mX7_addEquals.1 mX7_addEquals.1 ∈ aTb := aJ 25 rfl rfl
def mX7_addPair : aMd := (yX7_addPair, cX7_addPair, 7, none, { frames := 0, cells := 0, slots := 0, locals := 0 })
theorem wmX7_addPair : aWm mX7_addPair := ⟨aI4 6 rfl rfl, aI1 11 rfl rfl, by decide, by decide⟩
theorem pnX7_addPair : aPn mX7_addPair 4 := pd17
theorem plX7_addPair : plainFor mX7_addPair.1 = true := plainFor_of_name pkX7
theorem wiX7_addPair : Cond.instanceMethod mX7_addPair.1 ∈ aTb := aI4 5 rfl rfl
theorem wlX7_addPair : Cond.selects mX7_addPair.1.cls mX7_addPair.1 mX7_addPair.1 ∈ aTb := aJ 23 rfl rfl
def mX7_fixLoose : aMd := (yX7_fixLoose, cX7_fixLoose, 2, none, { frames := 3, cells := 0, slots := 0, locals := 67 })
theorem wmX7_fixLoose : aWm mX7_fixLoose := ⟨aI4 19 rfl rfl, aI1 11 rfl rfl, by decide, by decide⟩
theorem pnX7_fixLoose : aPn mX7_fixLoose 0 := pd2
theorem plX7_fixLoose : plainFor mX7_fixLoose.1 = true := plainFor_of_name pkX7
theorem wiX7_fixLoose : Cond.instanceMethod mX7_fixLoose.1 ∈ aTb := aI4 18 rfl rfl
theorem wlX7_fixLoose : Cond.selects mX7_fixLoose.1.cls mX7_fixLoose.1 mX7_fixLoose.1 ∈ aTb := aJ 26 rfl rfl
def mX7_findLasts : aMd := (yX7_findLasts, cX7_findLasts, 4, none, { frames := 2, cells := 0, slots := 0, locals := 44 })
theorem wmX7_findLasts : aWm mX7_findLasts := ⟨aI4 23 rfl rfl, aI1 11 rfl rfl, by decide, by decide⟩
theorem pnX7_findLasts : aPn mX7_findLasts 0 := pd2
theorem plX7_findLasts : plainFor mX7_findLasts.1 = true := plainFor_of_name pkX7
theorem wiX7_findLasts : Cond.instanceMethod mX7_findLasts.1 ∈ aTb := aI4 22 rfl rfl
theorem wlX7_findLasts : Cond.selects mX7_findLasts.1.cls mX7_findLasts.1 mX7_findLasts.1 ∈ aTb := aJ 27 rfl rfl
def mX7_pullLast : aMd := (yX7_pullLast, cX7_pullLast, 4, some .boolean, { frames := 1, cells := 0, slots := 0, locals := 21 })
theorem wmX7_pullLast : aWm mX7_pullLast := ⟨aI4 27 rfl rfl, aI1 11 rfl rfl, by decide, by decide⟩
theorem pnX7_pullLast : aPn mX7_pullLast 1 := pd5
theorem plX7_pullLast : plainFor mX7_pullLast.1 = true := plainFor_of_name pkX7
theorem wiX7_pullLast : Cond.instanceMethod mX7_pullLast.1 ∈ aTb := aI4 26 rfl rfl
theorem wlX7_pullLast : Cond.selects mX7_pullLast.1.cls mX7_pullLast.1 mX7_pullLast.1 ∈ aTb := aJ 28 rfl rfl
def mX7_fix : aMd := (yX7_fix, cX7_fix, 3, none, { frames := 0, cells := 0, slots := 0, locals := 0 })
theorem wmX7_fix : aWm mX7_fix := ⟨aI4 32 rfl rfl, aI1 11 rfl rfl, by decide, by decide⟩
theorem pnX7_fix : aPn mX7_fix 1 := pd4
theorem plX7_fix : plainFor mX7_fix.1 = true := plainFor_of_name pkX7
theorem wiX7_fix : Cond.instanceMethod mX7_fix.1 ∈ aTb := aI4 31 rfl rfl
theorem wlX7_fix : Cond.selects mX7_fix.1.cls mX7_fix.1 mX7_fix.1 ∈ aTb := aJ 29 rfl rfl
def mX8_init : aMd := (yX8_init, cX8_init, 1, none, { frames := 1, cells := 1, slots := 256, locals := 20 })
theorem wmX8_init : aWm mX8_init := ⟨aI1 191 rfl rfl, aI1 6 rfl rfl, by decide, by decide⟩
theorem pnX8_init : aPn mX8_init 0 := pd2
theorem plX8_init : plainFor mX8_init.1 = true := plainFor_of_name pkX8
theorem wiX8_init : Cond.instanceMethod mX8_init.1 ∈ aTb := aI1 190 rfl rfl
def mX8_write : aMd := (yX8_write, cX8_write, 2, some .int, { frames := 4, cells := 0, slots := 0, locals := 114 })
theorem wmX8_write : aWm mX8_write := ⟨aI4 149 rfl rfl, aI1 6 rfl rfl, by decide, by decide⟩
theorem pnX8_write : aPn mX8_write 1 := pd28
theorem plX8_write : plainFor mX8_write.1 = true := plainFor_of_name pkX8
theorem wiX8_write : Cond.instanceMethod mX8_write.1 ∈ aTb := aI4 147 rfl rfl
theorem wlX8_write : Cond.selects mX8_write.1.cls mX8_write.1 mX8_write.1 ∈ aTb := aI4 148 rfl rfl
def mX8_append : aMd := (yX8_append, cX8_append, 2, none, { frames := 0, cells := 0, slots := 0, locals := 0 })
theorem wmX8_append : aWm mX8_append := ⟨aI4 195 rfl rfl, aI1 6 rfl rfl, by decide, by decide⟩
theorem pnX8_append : aPn mX8_append 1 := pd4
theorem plX8_append : plainFor mX8_append.1 = true := plainFor_of_name pkX8
theorem wiX8_append : Cond.instanceMethod mX8_append.1 ∈ aTb := aI4 194 rfl rfl
theorem wlX8_append : Cond.selects mX8_append.1.cls mX8_append.1 mX8_append.1 ∈ aTb := aJ 44 rfl rfl
def mX8_appendSize : aMd := (yX8_appendSize, cX8_appendSize, 6, none, { frames := 1, cells := 0, slots := 0, locals := 23 })
theorem wmX8_appendSize : aWm mX8_appendSize := ⟨aI4 199 rfl rfl, aI1 6 rfl rfl, by decide, by decide⟩
theorem pnX8_appendSize : aPn mX8_appendSize 1 := pd35
theorem plX8_appendSize : plainFor mX8_appendSize.1 = true := plainFor_of_name pkX8
theorem wiX8_appendSize : Cond.instanceMethod mX8_appendSize.1 ∈ aTb := aI4 198 rfl rfl
theorem wlX8_appendSize : Cond.selects mX8_appendSize.1.cls mX8_appendSize.1 mX8_appendSize.1 ∈ aTb := aJ 45 rfl rfl
def mX9_init : aMd := (yX9_init, cX9_init, 1, none, { frames := 1, cells := 1, slots := 12, locals := 20 })
theorem wmX9_init : aWm mX9_init := ⟨aI1 160 rfl rfl, aI1 5 rfl rfl, by decide, by decide⟩
theorem pnX9_init : aPn mX9_init 0 := pd2
theorem plX9_init : plainFor mX9_init.1 = true := plainFor_of_name pkX9
theorem wiX9_init : Cond.instanceMethod mX9_init.1 ∈ aTb := aI1 159 rfl rfl
def mX9_become : aMd := (yX9_become, cX9_become, 2, none, { frames := 1, cells := 0, slots := 0, locals := 23 })
theorem wmX9_become : aWm mX9_become := ⟨aI4 85 rfl rfl, aI1 5 rfl rfl, by decide, by decide⟩
theorem pnX9_become : aPn mX9_become 1 := pd4
theorem plX9_become : plainFor mX9_become.1 = true := plainFor_of_name pkX9
theorem wiX9_become : Cond.instanceMethod mX9_become.1 ∈ aTb := aI4 83 rfl rfl
theorem wlX9_become : Cond.selects mX9_become.1.cls mX9_become.1 mX9_become.1 ∈ aTb := aI4 84 rfl rfl
def mX9_copy : aMd := (yX9_copy, cX9_copy, 2, none, { frames := 1, cells := 0, slots := 0, locals := 49 })
theorem wmX9_copy : aWm mX9_copy := ⟨aI4 118 rfl rfl, aI1 5 rfl rfl, by decide, by decide⟩
theorem pnX9_copy : aPn mX9_copy 1 := pd35
theorem plX9_copy : plainFor mX9_copy.1 = true := plainFor_of_name pkX9
theorem wiX9_copy : Cond.instanceMethod mX9_copy.1 ∈ aTb := aI4 116 rfl rfl
theorem wlX9_copy : Cond.selects mX9_copy.1.cls mX9_copy.1 mX9_copy.1 ∈ aTb := aI4 117 rfl rfl
def mX9_hasSize : aMd := (yX9_hasSize, cX9_hasSize, 3, some .boolean, { frames := 0, cells := 0, slots := 0, locals := 0 })
theorem wmX9_hasSize : aWm mX9_hasSize := ⟨aI4 145 rfl rfl, aI1 5 rfl rfl, by decide, by decide⟩
theorem pnX9_hasSize : aPn mX9_hasSize 1 := pd5
theorem plX9_hasSize : plainFor mX9_hasSize.1 = true := plainFor_of_name pkX9
theorem wiX9_hasSize : Cond.instanceMethod mX9_hasSize.1 ∈ aTb := aI4 143 rfl rfl
theorem wlX9_hasSize : Cond.selects mX9_hasSize.1.cls mX9_hasSize.1 mX9_hasSize.1 ∈ aTb := aI4 144 rfl rfl
def mX9_timesPlus : aMd := (yX9_timesPlus, cX9_timesPlus, 6, none, { frames := 0, cells := 0, slots := 0, locals := 0 })
theorem wmX9_timesPlus : aWm mX9_timesPlus := ⟨aI4 92 rfl rfl, aI1 5 rfl rfl, by decide, by decide⟩
theorem pnX9_timesPlus : aPn mX9_timesPlus 2 := pd8
theorem plX9_timesPlus : plainFor mX9_timesPlus.1 = true := plainFor_of_name pkX9
theorem wiX9_timesPlus : Cond.instanceMethod mX9_timesPlus.1 ∈ aTb := aI4 90 rfl rfl
theorem wlX9_timesPlus : Cond.selects mX9_timesPlus.1.cls mX9_timesPlus.1 mX9_timesPlus.1 ∈ aTb := aI4 91 rfl rfl
def mX9_compareSize : aMd := (yX9_compareSize, cX9_compareSize, 3, some .int, { frames := 0, cells := 0, slots := 0, locals := 0 })
theorem wmX9_compareSize : aWm mX9_compareSize := ⟨aI4 141 rfl rfl, aI1 5 rfl rfl, by decide, by decide⟩
theorem pnX9_compareSize : aPn mX9_compareSize 1 := pd34
theorem plX9_compareSize : plainFor mX9_compareSize.1 = true := plainFor_of_name pkX9
theorem wiX9_compareSize : Cond.instanceMethod mX9_compareSize.1 ∈ aTb := aI4 139 rfl rfl
theorem wlX9_compareSize : Cond.selects mX9_compareSize.1.cls mX9_compareSize.1 mX9_compareSize.1 ∈ aTb := aI4 140 rfl rfl
def mX9_add : aMd := (yX9_add, cX9_add, 2, none, { frames := 1, cells := 0, slots := 0, locals := 25 })
theorem wmX9_add : aWm mX9_add := ⟨aI4 132 rfl rfl, aI1 5 rfl rfl, by decide, by decide⟩
theorem pnX9_add : aPn mX9_add 1 := pd35
theorem plX9_add : plainFor mX9_add.1 = true := plainFor_of_name pkX9
theorem wiX9_add : Cond.instanceMethod mX9_add.1 ∈ aTb := aI4 130 rfl rfl
theorem wlX9_add : Cond.selects mX9_add.1.cls mX9_add.1 mX9_add.1 ∈ aTb := aI4 131 rfl rfl
def mX9_subtractSize : aMd := (yX9_subtractSize, cX9_subtractSize, 2, none, { frames := 1, cells := 0, slots := 0, locals := 25 })
theorem wmX9_subtractSize : aWm mX9_subtractSize := ⟨aI4 183 rfl rfl, aI1 5 rfl rfl, by decide, by decide⟩
theorem pnX9_subtractSize : aPn mX9_subtractSize 1 := pd35
theorem plX9_subtractSize : plainFor mX9_subtractSize.1 = true := plainFor_of_name pkX9
theorem wiX9_subtractSize : Cond.instanceMethod mX9_subtractSize.1 ∈ aTb := aI4 181 rfl rfl
theorem wlX9_subtractSize : Cond.selects mX9_subtractSize.1.cls mX9_subtractSize.1 mX9_subtractSize.1 ∈ aTb := aI4 182 rfl rfl
def mX9_combine : aMd := (yX9_combine, cX9_combine, 6, none, { frames := 0, cells := 0, slots := 0, locals := 0 })
theorem wmX9_combine : aWm mX9_combine := ⟨aI4 136 rfl rfl, aI1 5 rfl rfl, by decide, by decide⟩
theorem pnX9_combine : aPn mX9_combine 3 := pd37
theorem plX9_combine : plainFor mX9_combine.1 = true := plainFor_of_name pkX9
theorem wiX9_combine : Cond.instanceMethod mX9_combine.1 ∈ aTb := aI4 135 rfl rfl
theorem wlX9_combine : Cond.selects mX9_combine.1.cls mX9_combine.1 mX9_combine.1 ∈ aTb := aJ 40 rfl rfl
def mX9_twos : aMd := (yX9_twos, cX9_twos, 2, some .int, { frames := 1, cells := 0, slots := 0, locals := 20 })
theorem wmX9_twos : aWm mX9_twos := ⟨aI4 159 rfl rfl, aI1 5 rfl rfl, by decide, by decide⟩
theorem pnX9_twos : aPn mX9_twos 0 := pd0
theorem plX9_twos : plainFor mX9_twos.1 = true := plainFor_of_name pkX9
theorem wiX9_twos : Cond.instanceMethod mX9_twos.1 ∈ aTb := aI4 157 rfl rfl
theorem wlX9_twos : Cond.selects mX9_twos.1.cls mX9_twos.1 mX9_twos.1 ∈ aTb := aI4 158 rfl rfl
def mX9_dropBits : aMd := (yX9_dropBits, cX9_dropBits, 7, none, { frames := 1, cells := 0, slots := 0, locals := 21 })
theorem wmX9_dropBits : aWm mX9_dropBits := ⟨aI4 170 rfl rfl, aI1 5 rfl rfl, by decide, by decide⟩
theorem pnX9_dropBits : aPn mX9_dropBits 1 := pd4
theorem plX9_dropBits : plainFor mX9_dropBits.1 = true := plainFor_of_name pkX9
theorem wiX9_dropBits : Cond.instanceMethod mX9_dropBits.1 ∈ aTb := aI4 168 rfl rfl
theorem wlX9_dropBits : Cond.selects mX9_dropBits.1.cls mX9_dropBits.1 mX9_dropBits.1 ∈ aTb := aI4 169 rfl rfl
def mX9_limbAt : aMd := (yX9_limbAt, cX9_limbAt, 2, some .int, { frames := 0, cells := 0, slots := 0, locals := 0 })
theorem wmX9_limbAt : aWm mX9_limbAt := ⟨aI4 174 rfl rfl, aI1 5 rfl rfl, by decide, by decide⟩
theorem pnX9_limbAt : aPn mX9_limbAt 1 := pd3
theorem plX9_limbAt : plainFor mX9_limbAt.1 = true := plainFor_of_name pkX9
theorem wiX9_limbAt : Cond.instanceMethod mX9_limbAt.1 ∈ aTb := aI4 173 rfl rfl
theorem wlX9_limbAt : Cond.selects mX9_limbAt.1.cls mX9_limbAt.1 mX9_limbAt.1 ∈ aTb := aJ 41 rfl rfl
def mX9_dropDigit : aMd := (yX9_dropDigit, cX9_dropDigit, 4, some .int, { frames := 0, cells := 0, slots := 0, locals := 0 })
theorem wmX9_dropDigit : aWm mX9_dropDigit := ⟨aI4 203 rfl rfl, aI1 5 rfl rfl, by decide, by decide⟩
theorem pnX9_dropDigit : aPn mX9_dropDigit 0 := pd0
theorem plX9_dropDigit : plainFor mX9_dropDigit.1 = true := plainFor_of_name pkX9
theorem wiX9_dropDigit : Cond.instanceMethod mX9_dropDigit.1 ∈ aTb := aI4 201 rfl rfl
theorem wlX9_dropDigit : Cond.selects mX9_dropDigit.1.cls mX9_dropDigit.1 mX9_dropDigit.1 ∈ aTb := aI4 202 rfl rfl
def mX9_divideByOdd : aMd := (yX9_divideByOdd, cX9_divideByOdd, 8, none, { frames := 1, cells := 0, slots := 0, locals := 22 })
theorem wmX9_divideByOdd : aWm mX9_divideByOdd := ⟨aI4 187 rfl rfl, aI1 5 rfl rfl, by decide, by decide⟩
theorem pnX9_divideByOdd : aPn mX9_divideByOdd 1 := pd35
theorem plX9_divideByOdd : plainFor mX9_divideByOdd.1 = true := plainFor_of_name pkX9
theorem wiX9_divideByOdd : Cond.instanceMethod mX9_divideByOdd.1 ∈ aTb := aI4 185 rfl rfl
theorem wlX9_divideByOdd : Cond.selects mX9_divideByOdd.1.cls mX9_divideByOdd.1 mX9_divideByOdd.1 ∈ aTb := aI4 186 rfl rfl
def mX9_inverseOfLowest : aMd := (yX9_inverseOfLowest, cX9_inverseOfLowest, 3, some .int, { frames := 0, cells := 0, slots := 0, locals := 0 })
theorem wmX9_inverseOfLowest : aWm mX9_inverseOfLowest := ⟨aI4 191 rfl rfl, aI1 5 rfl rfl, by decide, by decide⟩
theorem pnX9_inverseOfLowest : aPn mX9_inverseOfLowest 0 := pd0
theorem plX9_inverseOfLowest : plainFor mX9_inverseOfLowest.1 = true := plainFor_of_name pkX9
theorem wiX9_inverseOfLowest : Cond.instanceMethod mX9_inverseOfLowest.1 ∈ aTb := aI4 190 rfl rfl
theorem wlX9_inverseOfLowest : Cond.selects mX9_inverseOfLowest.1.cls mX9_inverseOfLowest.1 mX9_inverseOfLowest.1 ∈ aTb := aJ 43 rfl rfl
def mX10_init : aMd := (yX10_init, cX10_init, 1, none, { frames := 4, cells := 150, slots := 6326, locals := 93 })
theorem wmX10_init : aWm mX10_init := ⟨aI1 21 rfl rfl, aI1 1 rfl rfl, by decide, by decide⟩
theorem pnX10_init : aPn mX10_init 0 := pd2
theorem plX10_init : plainFor mX10_init.1 = true := plainFor_of_name pkX10
theorem wiX10_init : Cond.instanceMethod mX10_init.1 ∈ aTb := aI1 20 rfl rfl
def mX10_note : aMd := (yX10_note, cX10_note, 4, some .int, { frames := 4, cells := 0, slots := 0, locals := 95 })
theorem wmX10_note : aWm mX10_note := ⟨aI2 184 rfl rfl, aI1 1 rfl rfl, by decide, by decide⟩
theorem pnX10_note : aPn mX10_note 3 := pd10
theorem plX10_note : plainFor mX10_note.1 = true := plainFor_of_name pkX10
theorem wiX10_note : Cond.instanceMethod mX10_note.1 ∈ aTb := aI2 182 rfl rfl
theorem wlX10_note : Cond.selects mX10_note.1.cls mX10_note.1 mX10_note.1 ∈ aTb := aI2 183 rfl rfl
def mX10_clear : aMd := (yX10_clear, cX10_clear, 1, some .int, { frames := 1, cells := 0, slots := 0, locals := 21 })
theorem wmX10_clear : aWm mX10_clear := ⟨aI2 238 rfl rfl, aI1 1 rfl rfl, by decide, by decide⟩
theorem pnX10_clear : aPn mX10_clear 0 := pd0
theorem plX10_clear : plainFor mX10_clear.1 = true := plainFor_of_name pkX10
theorem wiX10_clear : Cond.instanceMethod mX10_clear.1 ∈ aTb := aI2 236 rfl rfl
theorem wlX10_clear : Cond.selects mX10_clear.1.cls mX10_clear.1 mX10_clear.1 ∈ aTb := aI2 237 rfl rfl
def mX10_bind : aMd := (yX10_bind, cX10_bind, 3, some .int, { frames := 4, cells := 0, slots := 0, locals := 90 })
theorem wmX10_bind : aWm mX10_bind := ⟨aI3 6 rfl rfl, aI1 1 rfl rfl, by decide, by decide⟩
theorem pnX10_bind : aPn mX10_bind 2 := pd20
theorem plX10_bind : plainFor mX10_bind.1 = true := plainFor_of_name pkX10
theorem wiX10_bind : Cond.instanceMethod mX10_bind.1 ∈ aTb := aI3 4 rfl rfl
theorem wlX10_bind : Cond.selects mX10_bind.1.cls mX10_bind.1 mX10_bind.1 ∈ aTb := aI3 5 rfl rfl
def mX10_ratio : aMd := (yX10_ratio, cX10_ratio, 4, some .int, { frames := 3, cells := 0, slots := 0, locals := 72 })
theorem wmX10_ratio : aWm mX10_ratio := ⟨aI3 18 rfl rfl, aI1 1 rfl rfl, by decide, by decide⟩
theorem pnX10_ratio : aPn mX10_ratio 3 := pd10
theorem plX10_ratio : plainFor mX10_ratio.1 = true := plainFor_of_name pkX10
theorem wiX10_ratio : Cond.instanceMethod mX10_ratio.1 ∈ aTb := aI3 16 rfl rfl
theorem wlX10_ratio : Cond.selects mX10_ratio.1.cls mX10_ratio.1 mX10_ratio.1 ∈ aTb := aI3 17 rfl rfl
def mX10_empty : aMd := (yX10_empty, cX10_empty, 2, some .int, { frames := 1, cells := 0, slots := 0, locals := 22 })
theorem wmX10_empty : aWm mX10_empty := ⟨aI3 36 rfl rfl, aI1 1 rfl rfl, by decide, by decide⟩
theorem pnX10_empty : aPn mX10_empty 1 := pd3
theorem plX10_empty : plainFor mX10_empty.1 = true := plainFor_of_name pkX10
theorem wiX10_empty : Cond.instanceMethod mX10_empty.1 ∈ aTb := aI3 34 rfl rfl
theorem wlX10_empty : Cond.selects mX10_empty.1.cls mX10_empty.1 mX10_empty.1 ∈ aTb := aI3 35 rfl rfl
def mX10_weight : aMd := (yX10_weight, cX10_weight, 4, some .int, { frames := 1, cells := 0, slots := 0, locals := 20 })
theorem wmX10_weight : aWm mX10_weight := ⟨aI3 44 rfl rfl, aI1 1 rfl rfl, by decide, by decide⟩
theorem pnX10_weight : aPn mX10_weight 2 := pd6
theorem plX10_weight : plainFor mX10_weight.1 = true := plainFor_of_name pkX10
theorem wiX10_weight : Cond.instanceMethod mX10_weight.1 ∈ aTb := aI3 42 rfl rfl
theorem wlX10_weight : Cond.selects mX10_weight.1.cls mX10_weight.1 mX10_weight.1 ∈ aTb := aI3 43 rfl rfl
def mX10_sets : aMd := (yX10_sets, cX10_sets, 1, some .int, { frames := 0, cells := 0, slots := 0, locals := 0 })
theorem wmX10_sets : aWm mX10_sets := ⟨aI3 50 rfl rfl, aI1 1 rfl rfl, by decide, by decide⟩
theorem pnX10_sets : aPn mX10_sets 0 := pd0
theorem plX10_sets : plainFor mX10_sets.1 = true := plainFor_of_name pkX10
theorem wiX10_sets : Cond.instanceMethod mX10_sets.1 ∈ aTb := aI3 48 rfl rfl
theorem wlX10_sets : Cond.selects mX10_sets.1.cls mX10_sets.1 mX10_sets.1 ∈ aTb := aI3 49 rfl rfl
def mX10_set : aMd := (yX10_set, cX10_set, 3, some .int, { frames := 3, cells := 0, slots := 0, locals := 68 })
theorem wmX10_set : aWm mX10_set := ⟨aI3 54 rfl rfl, aI1 1 rfl rfl, by decide, by decide⟩
theorem pnX10_set : aPn mX10_set 2 := pd6
theorem plX10_set : plainFor mX10_set.1 = true := plainFor_of_name pkX10
theorem wiX10_set : Cond.instanceMethod mX10_set.1 ∈ aTb := aI3 52 rfl rfl
theorem wlX10_set : Cond.selects mX10_set.1.cls mX10_set.1 mX10_set.1 ∈ aTb := aI3 53 rfl rfl
def mX10_sounds : aMd := (yX10_sounds, cX10_sounds, 3, some .int, { frames := 2, cells := 0, slots := 0, locals := 44 })
theorem wmX10_sounds : aWm mX10_sounds := ⟨aI3 77 rfl rfl, aI1 1 rfl rfl, by decide, by decide⟩
theorem pnX10_sounds : aPn mX10_sounds 2 := pd6
theorem plX10_sounds : plainFor mX10_sounds.1 = true := plainFor_of_name pkX10
theorem wiX10_sounds : Cond.instanceMethod mX10_sounds.1 ∈ aTb := aI3 75 rfl rfl
theorem wlX10_sounds : Cond.selects mX10_sounds.1.cls mX10_sounds.1 mX10_sounds.1 ∈ aTb := aI3 76 rfl rfl
def mX10_reading : aMd := (yX10_reading, cX10_reading, 5, some .int, { frames := 4, cells := 0, slots := 0, locals := 90 })
theorem wmX10_reading : aWm mX10_reading := ⟨aI3 82 rfl rfl, aI1 1 rfl rfl, by decide, by decide⟩
theorem pnX10_reading : aPn mX10_reading 4 := pd14
theorem plX10_reading : plainFor mX10_reading.1 = true := plainFor_of_name pkX10
theorem wiX10_reading : Cond.instanceMethod mX10_reading.1 ∈ aTb := aI3 80 rfl rfl
theorem wlX10_reading : Cond.selects mX10_reading.1.cls mX10_reading.1 mX10_reading.1 ∈ aTb := aI3 81 rfl rfl
def mX10_harsh : aMd := (yX10_harsh, cX10_harsh, 3, some .int, { frames := 4, cells := 0, slots := 0, locals := 90 })
theorem wmX10_harsh : aWm mX10_harsh := ⟨aI3 111 rfl rfl, aI1 1 rfl rfl, by decide, by decide⟩
theorem pnX10_harsh : aPn mX10_harsh 2 := pd6
theorem plX10_harsh : plainFor mX10_harsh.1 = true := plainFor_of_name pkX10
theorem wiX10_harsh : Cond.instanceMethod mX10_harsh.1 ∈ aTb := aI3 109 rfl rfl
theorem wlX10_harsh : Cond.selects mX10_harsh.1.cls mX10_harsh.1 mX10_harsh.1 ∈ aTb := aI3 110 rfl rfl
def mX10_choose : aMd := (yX10_choose, cX10_choose, 3, some .long, { frames := 6, cells := 0, slots := 0, locals := 140 })
theorem wmX10_choose : aWm mX10_choose := ⟨aI3 126 rfl rfl, aI1 1 rfl rfl, by decide, by decide⟩
theorem pnX10_choose : aPn mX10_choose 0 := pd1
theorem plX10_choose : plainFor mX10_choose.1 = true := plainFor_of_name pkX10
theorem wiX10_choose : Cond.instanceMethod mX10_choose.1 ∈ aTb := aI3 124 rfl rfl
theorem wlX10_choose : Cond.selects mX10_choose.1.cls mX10_choose.1 mX10_choose.1 ∈ aTb := aI3 125 rfl rfl
def mX10_chosen : aMd := (yX10_chosen, cX10_chosen, 2, some .int, { frames := 1, cells := 0, slots := 0, locals := 21 })
theorem wmX10_chosen : aWm mX10_chosen := ⟨aI3 215 rfl rfl, aI1 1 rfl rfl, by decide, by decide⟩
theorem pnX10_chosen : aPn mX10_chosen 1 := pd3
theorem plX10_chosen : plainFor mX10_chosen.1 = true := plainFor_of_name pkX10
theorem wiX10_chosen : Cond.instanceMethod mX10_chosen.1 ∈ aTb := aI3 213 rfl rfl
theorem wlX10_chosen : Cond.selects mX10_chosen.1.cls mX10_chosen.1 mX10_chosen.1 ∈ aTb := aI3 214 rfl rfl
def mX10_solve : aMd := (yX10_solve, cX10_solve, 1, some .int, { frames := 6, cells := 0, slots := 0, locals := 137 })
theorem wmX10_solve : aWm mX10_solve := ⟨aI3 219 rfl rfl, aI1 1 rfl rfl, by decide, by decide⟩
theorem pnX10_solve : aPn mX10_solve 0 := pd0
theorem plX10_solve : plainFor mX10_solve.1 = true := plainFor_of_name pkX10
theorem wiX10_solve : Cond.instanceMethod mX10_solve.1 ∈ aTb := aI3 217 rfl rfl
theorem wlX10_solve : Cond.selects mX10_solve.1.cls mX10_solve.1 mX10_solve.1 ∈ aTb := aI3 218 rfl rfl
def mX10_variable : aMd := (yX10_variable, cX10_variable, 3, some .int, { frames := 3, cells := 0, slots := 0, locals := 66 })
theorem wmX10_variable : aWm mX10_variable := ⟨aI4 97 rfl rfl, aI1 1 rfl rfl, by decide, by decide⟩
theorem pnX10_variable : aPn mX10_variable 2 := pd6
theorem plX10_variable : plainFor mX10_variable.1 = true := plainFor_of_name pkX10
theorem wiX10_variable : Cond.instanceMethod mX10_variable.1 ∈ aTb := aI4 95 rfl rfl
theorem wlX10_variable : Cond.selects mX10_variable.1.cls mX10_variable.1 mX10_variable.1 ∈ aTb := aI4 96 rfl rfl
def mX10_loose : aMd := (yX10_loose, cX10_loose, 1, some .int, { frames := 0, cells := 0, slots := 0, locals := 0 })
theorem wmX10_loose : aWm mX10_loose := ⟨aI4 102 rfl rfl, aI1 1 rfl rfl, by decide, by decide⟩
theorem pnX10_loose : aPn mX10_loose 0 := pd0
theorem plX10_loose : plainFor mX10_loose.1 = true := plainFor_of_name pkX10
theorem wiX10_loose : Cond.instanceMethod mX10_loose.1 ∈ aTb := aI4 100 rfl rfl
theorem wlX10_loose : Cond.selects mX10_loose.1.cls mX10_loose.1 mX10_loose.1 ∈ aTb := aI4 101 rfl rfl
def mX10_place : aMd := (yX10_place, cX10_place, 4, some .int, { frames := 5, cells := 0, slots := 0, locals := 135 })
theorem wmX10_place : aWm mX10_place := ⟨aI4 106 rfl rfl, aI1 1 rfl rfl, by decide, by decide⟩
theorem pnX10_place : aPn mX10_place 2 := pd6
theorem plX10_place : plainFor mX10_place.1 = true := plainFor_of_name pkX10
theorem wiX10_place : Cond.instanceMethod mX10_place.1 ∈ aTb := aI4 104 rfl rfl
theorem wlX10_place : Cond.selects mX10_place.1.cls mX10_place.1 mX10_place.1 ∈ aTb := aI4 105 rfl rfl
def mX10_move : aMd := (yX10_move, cX10_move, 4, some .int, { frames := 5, cells := 0, slots := 0, locals := 135 })
theorem wmX10_move : aWm mX10_move := ⟨aI4 209 rfl rfl, aI1 1 rfl rfl, by decide, by decide⟩
theorem pnX10_move : aPn mX10_move 2 := pd6
theorem plX10_move : plainFor mX10_move.1 = true := plainFor_of_name pkX10
theorem wiX10_move : Cond.instanceMethod mX10_move.1 ∈ aTb := aI4 207 rfl rfl
theorem wlX10_move : Cond.selects mX10_move.1.cls mX10_move.1 mX10_move.1 ∈ aTb := aI4 208 rfl rfl
def mX10_energy : aMd := (yX10_energy, cX10_energy, 1, some .int, { frames := 5, cells := 0, slots := 0, locals := 135 })
theorem wmX10_energy : aWm mX10_energy := ⟨aI4 213 rfl rfl, aI1 1 rfl rfl, by decide, by decide⟩
theorem pnX10_energy : aPn mX10_energy 0 := pd0
theorem plX10_energy : plainFor mX10_energy.1 = true := plainFor_of_name pkX10
theorem wiX10_energy : Cond.instanceMethod mX10_energy.1 ∈ aTb := aI4 211 rfl rfl
theorem wlX10_energy : Cond.selects mX10_energy.1.cls mX10_energy.1 mX10_energy.1 ∈ aTb := aI4 212 rfl rfl
def mX10_near : aMd := (yX10_near, cX10_near, 4, some .int, { frames := 4, cells := 0, slots := 0, locals := 114 })
theorem wmX10_near : aWm mX10_near := ⟨aI4 217 rfl rfl, aI1 1 rfl rfl, by decide, by decide⟩
theorem pnX10_near : aPn mX10_near 2 := pd6
theorem plX10_near : plainFor mX10_near.1 = true := plainFor_of_name pkX10
theorem wiX10_near : Cond.instanceMethod mX10_near.1 ∈ aTb := aI4 215 rfl rfl
theorem wlX10_near : Cond.selects mX10_near.1.cls mX10_near.1 mX10_near.1 ∈ aTb := aI4 216 rfl rfl
def mX10_text : aMd := (yX10_text, cX10_text, 2, some .int, { frames := 0, cells := 0, slots := 0, locals := 0 })
theorem wmX10_text : aWm mX10_text := ⟨aI4 230 rfl rfl, aI1 1 rfl rfl, by decide, by decide⟩
theorem pnX10_text : aPn mX10_text 1 := pd3
theorem plX10_text : plainFor mX10_text.1 = true := plainFor_of_name pkX10
theorem wiX10_text : Cond.instanceMethod mX10_text.1 ∈ aTb := aI4 228 rfl rfl
theorem wlX10_text : Cond.selects mX10_text.1.cls mX10_text.1 mX10_text.1 ∈ aTb := aI4 229 rfl rfl
def mX10_pure : aMd := (yX10_pure, cX10_pure, 3, some .int, { frames := 1, cells := 0, slots := 0, locals := 21 })
theorem wmX10_pure : aWm mX10_pure := ⟨aI4 234 rfl rfl, aI1 1 rfl rfl, by decide, by decide⟩
theorem pnX10_pure : aPn mX10_pure 2 := pd6
theorem plX10_pure : plainFor mX10_pure.1 = true := plainFor_of_name pkX10
theorem wiX10_pure : Cond.instanceMethod mX10_pure.1 ∈ aTb := aI4 232 rfl rfl
theorem wlX10_pure : Cond.selects mX10_pure.1.cls mX10_pure.1 mX10_pure.1 ∈ aTb := aI4 233 rfl rfl
def mX10_pump : aMd := (yX10_pump, cX10_pump, 3, some .int, { frames := 3, cells := 0, slots := 0, locals := 67 })
theorem wmX10_pump : aWm mX10_pump := ⟨aI4 238 rfl rfl, aI1 1 rfl rfl, by decide, by decide⟩
theorem pnX10_pump : aPn mX10_pump 2 := pd6
theorem plX10_pump : plainFor mX10_pump.1 = true := plainFor_of_name pkX10
theorem wiX10_pump : Cond.instanceMethod mX10_pump.1 ∈ aTb := aI4 236 rfl rfl
theorem wlX10_pump : Cond.selects mX10_pump.1.cls mX10_pump.1 mX10_pump.1 ∈ aTb := aI4 237 rfl rfl
def mX10_forget : aMd := (yX10_forget, cX10_forget, 1, none, { frames := 0, cells := 0, slots := 0, locals := 0 })
theorem wmX10_forget : aWm mX10_forget := ⟨aI2 200 rfl rfl, aI1 1 rfl rfl, by decide, by decide⟩
theorem pnX10_forget : aPn mX10_forget 0 := pd2
theorem plX10_forget : plainFor mX10_forget.1 = true := plainFor_of_name pkX10
theorem wiX10_forget : Cond.instanceMethod mX10_forget.1 ∈ aTb := aI2 199 rfl rfl
theorem wlX10_forget : Cond.selects mX10_forget.1.cls mX10_forget.1 mX10_forget.1 ∈ aTb := aJ 3 rfl rfl
def mX10_takeMove : aMd := (yX10_takeMove, cX10_takeMove, 3, some .int, { frames := 3, cells := 0, slots := 0, locals := 92 })
theorem wmX10_takeMove : aWm mX10_takeMove := ⟨aI4 110 rfl rfl, aI1 1 rfl rfl, by decide, by decide⟩
theorem pnX10_takeMove : aPn mX10_takeMove 2 := pd6
theorem plX10_takeMove : plainFor mX10_takeMove.1 = true := plainFor_of_name pkX10
theorem wiX10_takeMove : Cond.instanceMethod mX10_takeMove.1 ∈ aTb := aI4 109 rfl rfl
theorem wlX10_takeMove : Cond.selects mX10_takeMove.1.cls mX10_takeMove.1 mX10_takeMove.1 ∈ aTb := aJ 39 rfl rfl
def mX11_init : aMd := (yX11_init, cX11_init, 3, none, { frames := 3, cells := 38, slots := 38137, locals := 72 })
theorem wmX11_init : aWm mX11_init := ⟨aI5 15 rfl rfl, aI1 13 rfl rfl, by decide, by decide⟩
theorem pnX11_init : aPn mX11_init 0 := pd2
theorem plX11_init : plainFor mX11_init.1 = true := plainFor_of_name pkX11
theorem wiX11_init : Cond.instanceMethod mX11_init.1 ∈ aTb := aI5 14 rfl rfl
def mX11_put : aMd := (yX11_put, cX11_put, 6, none, { frames := 1, cells := 0, slots := 0, locals := 24 })
theorem wmX11_put : aWm mX11_put := ⟨aI5 28 rfl rfl, aI1 13 rfl rfl, by decide, by decide⟩
theorem pnX11_put : aPn mX11_put 3 := pd12
theorem plX11_put : plainFor mX11_put.1 = true := plainFor_of_name pkX11
theorem wiX11_put : Cond.instanceMethod mX11_put.1 ∈ aTb := aI5 27 rfl rfl
theorem wlX11_put : Cond.selects mX11_put.1.cls mX11_put.1 mX11_put.1 ∈ aTb := aJ 48 rfl rfl
def mX11_powerOf : aMd := (yX11_powerOf, cX11_powerOf, 5, some .int, { frames := 0, cells := 0, slots := 0, locals := 0 })
theorem wmX11_powerOf : aWm mX11_powerOf := ⟨aI5 32 rfl rfl, aI1 13 rfl rfl, by decide, by decide⟩
theorem pnX11_powerOf : aPn mX11_powerOf 2 := pd6
theorem plX11_powerOf : plainFor mX11_powerOf.1 = true := plainFor_of_name pkX11
theorem wiX11_powerOf : Cond.instanceMethod mX11_powerOf.1 ∈ aTb := aI5 31 rfl rfl
theorem wlX11_powerOf : Cond.selects mX11_powerOf.1.cls mX11_powerOf.1 mX11_powerOf.1 ∈ aTb := aJ 49 rfl rfl
def mX11_divide : aMd := (yX11_divide, cX11_divide, 7, none, { frames := 2, cells := 0, slots := 0, locals := 46 })
theorem wmX11_divide : aWm mX11_divide := ⟨aI5 36 rfl rfl, aI1 13 rfl rfl, by decide, by decide⟩
theorem pnX11_divide : aPn mX11_divide 0 := pd2
theorem plX11_divide : plainFor mX11_divide.1 = true := plainFor_of_name pkX11
theorem wiX11_divide : Cond.instanceMethod mX11_divide.1 ∈ aTb := aI5 35 rfl rfl
theorem wlX11_divide : Cond.selects mX11_divide.1.cls mX11_divide.1 mX11_divide.1 ∈ aTb := aJ 50 rfl rfl
def mX11_count : aMd := (yX11_count, cX11_count, 5, none, { frames := 1, cells := 0, slots := 0, locals := 22 })
theorem wmX11_count : aWm mX11_count := ⟨aI5 40 rfl rfl, aI1 13 rfl rfl, by decide, by decide⟩
theorem pnX11_count : aPn mX11_count 0 := pd2
theorem plX11_count : plainFor mX11_count.1 = true := plainFor_of_name pkX11
theorem wiX11_count : Cond.instanceMethod mX11_count.1 ∈ aTb := aI5 39 rfl rfl
theorem wlX11_count : Cond.selects mX11_count.1.cls mX11_count.1 mX11_count.1 ∈ aTb := aJ 51 rfl rfl
def mX11_sounds0 : aMd := (yX11_sounds0, cX11_sounds0, 3, some .boolean, { frames := 0, cells := 0, slots := 0, locals := 0 })
theorem wmX11_sounds0 : aWm mX11_sounds0 := ⟨aI5 44 rfl rfl, aI1 13 rfl rfl, by decide, by decide⟩
theorem pnX11_sounds0 : aPn mX11_sounds0 2 := pd9
theorem plX11_sounds0 : plainFor mX11_sounds0.1 = true := plainFor_of_name pkX11
theorem wiX11_sounds0 : Cond.instanceMethod mX11_sounds0.1 ∈ aTb := aI5 43 rfl rfl
theorem wlX11_sounds0 : Cond.selects mX11_sounds0.1.cls mX11_sounds0.1 mX11_sounds0.1 ∈ aTb := aJ 52 rfl rfl
def mX11_typeOf : aMd := (yX11_typeOf, cX11_typeOf, 3, some .int, { frames := 0, cells := 0, slots := 0, locals := 0 })
theorem wmX11_typeOf : aWm mX11_typeOf := ⟨aI5 48 rfl rfl, aI1 13 rfl rfl, by decide, by decide⟩
theorem pnX11_typeOf : aPn mX11_typeOf 2 := pd6
theorem plX11_typeOf : plainFor mX11_typeOf.1 = true := plainFor_of_name pkX11
theorem wiX11_typeOf : Cond.instanceMethod mX11_typeOf.1 ∈ aTb := aI5 47 rfl rfl
theorem wlX11_typeOf : Cond.selects mX11_typeOf.1.cls mX11_typeOf.1 mX11_typeOf.1 ∈ aTb := aJ 53 rfl rfl
def mX11_octavesOf : aMd := (yX11_octavesOf, cX11_octavesOf, 3, some .int, { frames := 0, cells := 0, slots := 0, locals := 0 })
theorem wmX11_octavesOf : aWm mX11_octavesOf := ⟨aI6 19 rfl rfl, aI1 13 rfl rfl, by decide, by decide⟩
theorem pnX11_octavesOf : aPn mX11_octavesOf 2 := pd6
theorem plX11_octavesOf : plainFor mX11_octavesOf.1 = true := plainFor_of_name pkX11
theorem wiX11_octavesOf : Cond.instanceMethod mX11_octavesOf.1 ∈ aTb := aI6 18 rfl rfl
theorem wlX11_octavesOf : Cond.selects mX11_octavesOf.1.cls mX11_octavesOf.1 mX11_octavesOf.1 ∈ aTb := aJ 60 rfl rfl
def mX11_ratioOf : aMd := (yX11_ratioOf, cX11_ratioOf, 6, some .int, { frames := 1, cells := 0, slots := 0, locals := 22 })
theorem wmX11_ratioOf : aWm mX11_ratioOf := ⟨aI6 11 rfl rfl, aI1 13 rfl rfl, by decide, by decide⟩
theorem pnX11_ratioOf : aPn mX11_ratioOf 3 := pd10
theorem plX11_ratioOf : plainFor mX11_ratioOf.1 = true := plainFor_of_name pkX11
theorem wiX11_ratioOf : Cond.instanceMethod mX11_ratioOf.1 ∈ aTb := aI6 10 rfl rfl
theorem wlX11_ratioOf : Cond.selects mX11_ratioOf.1.cls mX11_ratioOf.1 mX11_ratioOf.1 ∈ aTb := aJ 58 rfl rfl
def mX11_power : aMd := (yX11_power, cX11_power, 3, some .int, { frames := 0, cells := 0, slots := 0, locals := 0 })
theorem wmX11_power : aWm mX11_power := ⟨aI6 23 rfl rfl, aI1 13 rfl rfl, by decide, by decide⟩
theorem pnX11_power : aPn mX11_power 2 := pd6
theorem plX11_power : plainFor mX11_power.1 = true := plainFor_of_name pkX11
theorem wiX11_power : Cond.instanceMethod mX11_power.1 ∈ aTb := aI6 22 rfl rfl
theorem wlX11_power : Cond.selects mX11_power.1.cls mX11_power.1 mX11_power.1 ∈ aTb := aJ 61 rfl rfl
def mX11_targetOf : aMd := (yX11_targetOf, cX11_targetOf, 7, some .int, { frames := 2, cells := 0, slots := 0, locals := 47 })
theorem wmX11_targetOf : aWm mX11_targetOf := ⟨aI6 15 rfl rfl, aI1 13 rfl rfl, by decide, by decide⟩
theorem pnX11_targetOf : aPn mX11_targetOf 3 := pd10
theorem plX11_targetOf : plainFor mX11_targetOf.1 = true := plainFor_of_name pkX11
theorem wiX11_targetOf : Cond.instanceMethod mX11_targetOf.1 ∈ aTb := aI6 14 rfl rfl
theorem wlX11_targetOf : Cond.selects mX11_targetOf.1.cls mX11_targetOf.1 mX11_targetOf.1 ∈ aTb := aJ 59 rfl rfl
def mX11_harshOf : aMd := (yX11_harshOf, cX11_harshOf, 10, some .int, { frames := 2, cells := 0, slots := 0, locals := 47 })
theorem wmX11_harshOf : aWm mX11_harshOf := ⟨aI6 31 rfl rfl, aI1 13 rfl rfl, by decide, by decide⟩
theorem pnX11_harshOf : aPn mX11_harshOf 2 := pd6
theorem plX11_harshOf : plainFor mX11_harshOf.1 = true := plainFor_of_name pkX11
theorem wiX11_harshOf : Cond.instanceMethod mX11_harshOf.1 ∈ aTb := aI6 30 rfl rfl
theorem wlX11_harshOf : Cond.selects mX11_harshOf.1.cls mX11_harshOf.1 mX11_harshOf.1 ∈ aTb := aJ 62 rfl rfl
def mX11_isIn : aMd := (yX11_isIn, cX11_isIn, 4, some .boolean, { frames := 0, cells := 0, slots := 0, locals := 0 })
theorem wmX11_isIn : aWm mX11_isIn := ⟨aI5 198 rfl rfl, aI1 13 rfl rfl, by decide, by decide⟩
theorem pnX11_isIn : aPn mX11_isIn 3 := pd13
theorem plX11_isIn : plainFor mX11_isIn.1 = true := plainFor_of_name pkX11
theorem wiX11_isIn : Cond.instanceMethod mX11_isIn.1 ∈ aTb := aI5 197 rfl rfl
theorem wlX11_isIn : Cond.selects mX11_isIn.1.cls mX11_isIn.1 mX11_isIn.1 ∈ aTb := aJ 54 rfl rfl
def mX11_isNote : aMd := (yX11_isNote, cX11_isNote, 2, some .boolean, { frames := 1, cells := 0, slots := 0, locals := 23 })
theorem wmX11_isNote : aWm mX11_isNote := ⟨aI5 210 rfl rfl, aI1 13 rfl rfl, by decide, by decide⟩
theorem pnX11_isNote : aPn mX11_isNote 1 := pd5
theorem plX11_isNote : plainFor mX11_isNote.1 = true := plainFor_of_name pkX11
theorem wiX11_isNote : Cond.instanceMethod mX11_isNote.1 ∈ aTb := aI5 209 rfl rfl
theorem wlX11_isNote : Cond.selects mX11_isNote.1.cls mX11_isNote.1 mX11_isNote.1 ∈ aTb := aJ 55 rfl rfl
def mX11_isSet : aMd := (yX11_isSet, cX11_isSet, 2, some .boolean, { frames := 1, cells := 0, slots := 0, locals := 23 })
theorem wmX11_isSet : aWm mX11_isSet := ⟨aI5 235 rfl rfl, aI1 13 rfl rfl, by decide, by decide⟩
theorem pnX11_isSet : aPn mX11_isSet 1 := pd5
theorem plX11_isSet : plainFor mX11_isSet.1 = true := plainFor_of_name pkX11
theorem wiX11_isSet : Cond.instanceMethod mX11_isSet.1 ∈ aTb := aI5 234 rfl rfl
theorem wlX11_isSet : Cond.selects mX11_isSet.1.cls mX11_isSet.1 mX11_isSet.1 ∈ aTb := aJ 56 rfl rfl
def mX11_isSounding : aMd := (yX11_isSounding, cX11_isSounding, 3, some .boolean, { frames := 2, cells := 0, slots := 0, locals := 44 })
theorem wmX11_isSounding : aWm mX11_isSounding := ⟨aI6 7 rfl rfl, aI1 13 rfl rfl, by decide, by decide⟩
theorem pnX11_isSounding : aPn mX11_isSounding 2 := pd9
theorem plX11_isSounding : plainFor mX11_isSounding.1 = true := plainFor_of_name pkX11
theorem wiX11_isSounding : Cond.instanceMethod mX11_isSounding.1 ∈ aTb := aI6 6 rfl rfl
theorem wlX11_isSounding : Cond.selects mX11_isSounding.1.cls mX11_isSounding.1 mX11_isSounding.1 ∈ aTb := aJ 57 rfl rfl
def mX11_note : aMd := (yX11_note, cX11_note, 8, some .int, { frames := 3, cells := 0, slots := 0, locals := 72 })
theorem wmX11_note : aWm mX11_note := ⟨aI5 194 rfl rfl, aI1 13 rfl rfl, by decide, by decide⟩
theorem pnX11_note : aPn mX11_note 3 := pd10
theorem plX11_note : plainFor mX11_note.1 = true := plainFor_of_name pkX11
theorem wiX11_note : Cond.instanceMethod mX11_note.1 ∈ aTb := aI5 192 rfl rfl
theorem wlX11_note : Cond.selects mX11_note.1.cls mX11_note.1 mX11_note.1 ∈ aTb := aI5 193 rfl rfl
def mX11_clear : aMd := (yX11_clear, cX11_clear, 2, some .int, { frames := 3, cells := 0, slots := 0, locals := 72 })
theorem wmX11_clear : aWm mX11_clear := ⟨aI5 202 rfl rfl, aI1 13 rfl rfl, by decide, by decide⟩
theorem pnX11_clear : aPn mX11_clear 0 := pd0
theorem plX11_clear : plainFor mX11_clear.1 = true := plainFor_of_name pkX11
theorem wiX11_clear : Cond.instanceMethod mX11_clear.1 ∈ aTb := aI5 200 rfl rfl
theorem wlX11_clear : Cond.selects mX11_clear.1.cls mX11_clear.1 mX11_clear.1 ∈ aTb := aI5 201 rfl rfl
def mX11_bind : aMd := (yX11_bind, cX11_bind, 4, some .int, { frames := 3, cells := 0, slots := 0, locals := 72 })
theorem wmX11_bind : aWm mX11_bind := ⟨aI5 206 rfl rfl, aI1 13 rfl rfl, by decide, by decide⟩
theorem pnX11_bind : aPn mX11_bind 2 := pd20
theorem plX11_bind : plainFor mX11_bind.1 = true := plainFor_of_name pkX11
theorem wiX11_bind : Cond.instanceMethod mX11_bind.1 ∈ aTb := aI5 204 rfl rfl
theorem wlX11_bind : Cond.selects mX11_bind.1.cls mX11_bind.1 mX11_bind.1 ∈ aTb := aI5 205 rfl rfl
def mX11_ratio : aMd := (yX11_ratio, cX11_ratio, 8, some .int, { frames := 3, cells := 0, slots := 0, locals := 72 })
theorem wmX11_ratio : aWm mX11_ratio := ⟨aI5 214 rfl rfl, aI1 13 rfl rfl, by decide, by decide⟩
theorem pnX11_ratio : aPn mX11_ratio 3 := pd10
theorem plX11_ratio : plainFor mX11_ratio.1 = true := plainFor_of_name pkX11
theorem wiX11_ratio : Cond.instanceMethod mX11_ratio.1 ∈ aTb := aI5 212 rfl rfl
theorem wlX11_ratio : Cond.selects mX11_ratio.1.cls mX11_ratio.1 mX11_ratio.1 ∈ aTb := aI5 213 rfl rfl
def mX11_empty : aMd := (yX11_empty, cX11_empty, 3, some .int, { frames := 3, cells := 0, slots := 0, locals := 72 })
theorem wmX11_empty : aWm mX11_empty := ⟨aI5 218 rfl rfl, aI1 13 rfl rfl, by decide, by decide⟩
theorem pnX11_empty : aPn mX11_empty 1 := pd3
theorem plX11_empty : plainFor mX11_empty.1 = true := plainFor_of_name pkX11
theorem wiX11_empty : Cond.instanceMethod mX11_empty.1 ∈ aTb := aI5 216 rfl rfl
theorem wlX11_empty : Cond.selects mX11_empty.1.cls mX11_empty.1 mX11_empty.1 ∈ aTb := aI5 217 rfl rfl
def mX11_weight : aMd := (yX11_weight, cX11_weight, 4, some .int, { frames := 3, cells := 0, slots := 0, locals := 72 })
theorem wmX11_weight : aWm mX11_weight := ⟨aI5 222 rfl rfl, aI1 13 rfl rfl, by decide, by decide⟩
theorem pnX11_weight : aPn mX11_weight 2 := pd6
theorem plX11_weight : plainFor mX11_weight.1 = true := plainFor_of_name pkX11
theorem wiX11_weight : Cond.instanceMethod mX11_weight.1 ∈ aTb := aI5 220 rfl rfl
theorem wlX11_weight : Cond.selects mX11_weight.1.cls mX11_weight.1 mX11_weight.1 ∈ aTb := aI5 221 rfl rfl
def mX11_sets : aMd := (yX11_sets, cX11_sets, 1, some .int, { frames := 0, cells := 0, slots := 0, locals := 0 })
theorem wmX11_sets : aWm mX11_sets := ⟨aI5 227 rfl rfl, aI1 13 rfl rfl, by decide, by decide⟩
theorem pnX11_sets : aPn mX11_sets 0 := pd0
theorem plX11_sets : plainFor mX11_sets.1 = true := plainFor_of_name pkX11
theorem wiX11_sets : Cond.instanceMethod mX11_sets.1 ∈ aTb := aI5 225 rfl rfl
theorem wlX11_sets : Cond.selects mX11_sets.1.cls mX11_sets.1 mX11_sets.1 ∈ aTb := aI5 226 rfl rfl
def mX11_set : aMd := (yX11_set, cX11_set, 3, some .int, { frames := 2, cells := 0, slots := 0, locals := 44 })
theorem wmX11_set : aWm mX11_set := ⟨aI5 231 rfl rfl, aI1 13 rfl rfl, by decide, by decide⟩
theorem pnX11_set : aPn mX11_set 2 := pd6
theorem plX11_set : plainFor mX11_set.1 = true := plainFor_of_name pkX11
theorem wiX11_set : Cond.instanceMethod mX11_set.1 ∈ aTb := aI5 229 rfl rfl
theorem wlX11_set : Cond.selects mX11_set.1.cls mX11_set.1 mX11_set.1 ∈ aTb := aI5 230 rfl rfl
def mX11_sounds : aMd := (yX11_sounds, cX11_sounds, 3, some .int, { frames := 2, cells := 0, slots := 0, locals := 44 })
theorem wmX11_sounds : aWm mX11_sounds := ⟨aI5 239 rfl rfl, aI1 13 rfl rfl, by decide, by decide⟩
theorem pnX11_sounds : aPn mX11_sounds 2 := pd6
theorem plX11_sounds : plainFor mX11_sounds.1 = true := plainFor_of_name pkX11
theorem wiX11_sounds : Cond.instanceMethod mX11_sounds.1 ∈ aTb := aI5 237 rfl rfl
theorem wlX11_sounds : Cond.selects mX11_sounds.1.cls mX11_sounds.1 mX11_sounds.1 ∈ aTb := aI5 238 rfl rfl
def mX11_reading : aMd := (yX11_reading, cX11_reading, 6, some .int, { frames := 3, cells := 0, slots := 0, locals := 73 })
theorem wmX11_reading : aWm mX11_reading := ⟨aI6 3 rfl rfl, aI1 13 rfl rfl, by decide, by decide⟩
theorem pnX11_reading : aPn mX11_reading 4 := pd14
theorem plX11_reading : plainFor mX11_reading.1 = true := plainFor_of_name pkX11
theorem wiX11_reading : Cond.instanceMethod mX11_reading.1 ∈ aTb := aI6 1 rfl rfl
theorem wlX11_reading : Cond.selects mX11_reading.1.cls mX11_reading.1 mX11_reading.1 ∈ aTb := aI6 2 rfl rfl
def mX11_harsh : aMd := (yX11_harsh, cX11_harsh, 3, some .int, { frames := 3, cells := 0, slots := 0, locals := 76 })
theorem wmX11_harsh : aWm mX11_harsh := ⟨aI6 27 rfl rfl, aI1 13 rfl rfl, by decide, by decide⟩
theorem pnX11_harsh : aPn mX11_harsh 2 := pd6
theorem plX11_harsh : plainFor mX11_harsh.1 = true := plainFor_of_name pkX11
theorem wiX11_harsh : Cond.instanceMethod mX11_harsh.1 ∈ aTb := aI6 25 rfl rfl
theorem wlX11_harsh : Cond.selects mX11_harsh.1.cls mX11_harsh.1 mX11_harsh.1 ∈ aTb := aI6 26 rfl rfl
def mX11_strain : aMd := (yX11_strain, cX11_strain, 12, some .long, { frames := 1, cells := 0, slots := 0, locals := 22 })
theorem wmX11_strain : aWm mX11_strain := ⟨aI6 41 rfl rfl, aI1 13 rfl rfl, by decide, by decide⟩
theorem pnX11_strain : aPn mX11_strain 3 := pd11
theorem plX11_strain : plainFor mX11_strain.1 = true := plainFor_of_name pkX11
theorem wiX11_strain : Cond.instanceMethod mX11_strain.1 ∈ aTb := aI6 40 rfl rfl
theorem wlX11_strain : Cond.selects mX11_strain.1.cls mX11_strain.1 mX11_strain.1 ∈ aTb := aJ 63 rfl rfl
def mX11_choose : aMd := (yX11_choose, cX11_choose, 12, some .long, { frames := 3, cells := 0, slots := 0, locals := 76 })
theorem wmX11_choose : aWm mX11_choose := ⟨aI6 35 rfl rfl, aI1 13 rfl rfl, by decide, by decide⟩
theorem pnX11_choose : aPn mX11_choose 0 := pd1
theorem plX11_choose : plainFor mX11_choose.1 = true := plainFor_of_name pkX11
theorem wiX11_choose : Cond.instanceMethod mX11_choose.1 ∈ aTb := aI6 33 rfl rfl
theorem wlX11_choose : Cond.selects mX11_choose.1.cls mX11_choose.1 mX11_choose.1 ∈ aTb := aI6 34 rfl rfl
def mX11_chosen : aMd := (yX11_chosen, cX11_chosen, 2, some .int, { frames := 2, cells := 0, slots := 0, locals := 44 })
theorem wmX11_chosen : aWm mX11_chosen := ⟨aI6 45 rfl rfl, aI1 13 rfl rfl, by decide, by decide⟩
theorem pnX11_chosen : aPn mX11_chosen 1 := pd3
theorem plX11_chosen : plainFor mX11_chosen.1 = true := plainFor_of_name pkX11
theorem wiX11_chosen : Cond.instanceMethod mX11_chosen.1 ∈ aTb := aI6 43 rfl rfl
theorem wlX11_chosen : Cond.selects mX11_chosen.1.cls mX11_chosen.1 mX11_chosen.1 ∈ aTb := aI6 44 rfl rfl
def mX11_addTerm : aMd := (yX11_addTerm, cX11_addTerm, 10, none, { frames := 0, cells := 0, slots := 0, locals := 0 })
theorem wmX11_addTerm : aWm mX11_addTerm := ⟨aI6 57 rfl rfl, aI1 13 rfl rfl, by decide, by decide⟩
theorem pnX11_addTerm : aPn mX11_addTerm 4 := pd17
theorem plX11_addTerm : plainFor mX11_addTerm.1 = true := plainFor_of_name pkX11
theorem wiX11_addTerm : Cond.instanceMethod mX11_addTerm.1 ∈ aTb := aI6 56 rfl rfl
theorem wlX11_addTerm : Cond.selects mX11_addTerm.1.cls mX11_addTerm.1 mX11_addTerm.1 ∈ aTb := aJ 65 rfl rfl
def mX11_build : aMd := (yX11_build, cX11_build, 8, none, { frames := 3, cells := 0, slots := 0, locals := 73 })
theorem wmX11_build : aWm mX11_build := ⟨aI6 53 rfl rfl, aI1 13 rfl rfl, by decide, by decide⟩
theorem pnX11_build : aPn mX11_build 0 := pd2
theorem plX11_build : plainFor mX11_build.1 = true := plainFor_of_name pkX11
theorem wiX11_build : Cond.instanceMethod mX11_build.1 ∈ aTb := aI6 52 rfl rfl
theorem wlX11_build : Cond.selects mX11_build.1.cls mX11_build.1 mX11_build.1 ∈ aTb := aJ 64 rfl rfl
def mX11_nextPrime : aMd := (yX11_nextPrime, cX11_nextPrime, 3, some .long, { frames := 1, cells := 0, slots := 0, locals := 24 })
theorem wmX11_nextPrime : aWm mX11_nextPrime := ⟨aI6 61 rfl rfl, aI1 13 rfl rfl, by decide, by decide⟩
theorem pnX11_nextPrime : aPn mX11_nextPrime 0 := pd1
theorem plX11_nextPrime : plainFor mX11_nextPrime.1 = true := plainFor_of_name pkX11
theorem wiX11_nextPrime : Cond.instanceMethod mX11_nextPrime.1 ∈ aTb := aI6 60 rfl rfl
theorem wlX11_nextPrime : Cond.selects mX11_nextPrime.1.cls mX11_nextPrime.1 mX11_nextPrime.1 ∈ aTb := aJ 66 rfl rfl
def mX11_isPrime : aMd := (yX11_isPrime, cX11_isPrime, 5, some .boolean, { frames := 0, cells := 0, slots := 0, locals := 0 })
theorem wmX11_isPrime : aWm mX11_isPrime := ⟨aI6 67 rfl rfl, aI1 13 rfl rfl, by decide, by decide⟩
theorem pnX11_isPrime : aPn mX11_isPrime 1 := pd25
theorem plX11_isPrime : plainFor mX11_isPrime.1 = true := plainFor_of_name pkX11
theorem wiX11_isPrime : Cond.instanceMethod mX11_isPrime.1 ∈ aTb := aI6 66 rfl rfl
theorem wlX11_isPrime : Cond.selects mX11_isPrime.1.cls mX11_isPrime.1 mX11_isPrime.1 ∈ aTb := aJ 67 rfl rfl
def mX11_mod : aMd := (yX11_mod, cX11_mod, 7, some .long, { frames := 0, cells := 0, slots := 0, locals := 0 })
theorem wmX11_mod : aWm mX11_mod := ⟨aI6 76 rfl rfl, aI1 13 rfl rfl, by decide, by decide⟩
theorem pnX11_mod : aPn mX11_mod 2 := pd26
theorem plX11_mod : plainFor mX11_mod.1 = true := plainFor_of_name pkX11
theorem wiX11_mod : Cond.instanceMethod mX11_mod.1 ∈ aTb := aI6 75 rfl rfl
theorem wlX11_mod : Cond.selects mX11_mod.1.cls mX11_mod.1 mX11_mod.1 ∈ aTb := aJ 69 rfl rfl
def mX11_inverse : aMd := (yX11_inverse, cX11_inverse, 11, some .long, { frames := 0, cells := 0, slots := 0, locals := 0 })
theorem wmX11_inverse : aWm mX11_inverse := ⟨aI6 80 rfl rfl, aI1 13 rfl rfl, by decide, by decide⟩
theorem pnX11_inverse : aPn mX11_inverse 2 := pd26
theorem plX11_inverse : plainFor mX11_inverse.1 = true := plainFor_of_name pkX11
theorem wiX11_inverse : Cond.instanceMethod mX11_inverse.1 ∈ aTb := aI6 79 rfl rfl
theorem wlX11_inverse : Cond.selects mX11_inverse.1.cls mX11_inverse.1 mX11_inverse.1 ∈ aTb := aJ 70 rfl rfl
def mX11_byPrime : aMd := (yX11_byPrime, cX11_byPrime, 14, some .boolean, { frames := 1, cells := 0, slots := 0, locals := 30 })
theorem wmX11_byPrime : aWm mX11_byPrime := ⟨aI6 72 rfl rfl, aI1 13 rfl rfl, by decide, by decide⟩
theorem pnX11_byPrime : aPn mX11_byPrime 1 := pd25
theorem plX11_byPrime : plainFor mX11_byPrime.1 = true := plainFor_of_name pkX11
theorem wiX11_byPrime : Cond.instanceMethod mX11_byPrime.1 ∈ aTb := aI6 71 rfl rfl
theorem wlX11_byPrime : Cond.selects mX11_byPrime.1.cls mX11_byPrime.1 mX11_byPrime.1 ∈ aTb := aJ 68 rfl rfl
def mX11_solve : aMd := (yX11_solve, cX11_solve, 4, some .int, { frames := 4, cells := 0, slots := 0, locals := 100 })
theorem wmX11_solve : aWm mX11_solve := ⟨aI6 49 rfl rfl, aI1 13 rfl rfl, by decide, by decide⟩
theorem pnX11_solve : aPn mX11_solve 0 := pd0
theorem plX11_solve : plainFor mX11_solve.1 = true := plainFor_of_name pkX11
theorem wiX11_solve : Cond.instanceMethod mX11_solve.1 ∈ aTb := aI6 47 rfl rfl
theorem wlX11_solve : Cond.selects mX11_solve.1.cls mX11_solve.1 mX11_solve.1 ∈ aTb := aI6 48 rfl rfl
def mX11_variable : aMd := (yX11_variable, cX11_variable, 3, some .int, { frames := 3, cells := 0, slots := 0, locals := 66 })
theorem wmX11_variable : aWm mX11_variable := ⟨aI6 84 rfl rfl, aI1 13 rfl rfl, by decide, by decide⟩
theorem pnX11_variable : aPn mX11_variable 2 := pd6
theorem plX11_variable : plainFor mX11_variable.1 = true := plainFor_of_name pkX11
theorem wiX11_variable : Cond.instanceMethod mX11_variable.1 ∈ aTb := aI6 82 rfl rfl
theorem wlX11_variable : Cond.selects mX11_variable.1.cls mX11_variable.1 mX11_variable.1 ∈ aTb := aI6 83 rfl rfl
def mX11_loose : aMd := (yX11_loose, cX11_loose, 1, some .int, { frames := 0, cells := 0, slots := 0, locals := 0 })
theorem wmX11_loose : aWm mX11_loose := ⟨aI6 88 rfl rfl, aI1 13 rfl rfl, by decide, by decide⟩
theorem pnX11_loose : aPn mX11_loose 0 := pd0
theorem plX11_loose : plainFor mX11_loose.1 = true := plainFor_of_name pkX11
theorem wiX11_loose : Cond.instanceMethod mX11_loose.1 ∈ aTb := aI6 86 rfl rfl
theorem wlX11_loose : Cond.selects mX11_loose.1.cls mX11_loose.1 mX11_loose.1 ∈ aTb := aI6 87 rfl rfl
def mX11_zero : aMd := (yX11_zero, cX11_zero, 3, none, { frames := 0, cells := 0, slots := 0, locals := 0 })
theorem wmX11_zero : aWm mX11_zero := ⟨aI6 104 rfl rfl, aI1 13 rfl rfl, by decide, by decide⟩
theorem pnX11_zero : aPn mX11_zero 1 := pd4
theorem plX11_zero : plainFor mX11_zero.1 = true := plainFor_of_name pkX11
theorem wiX11_zero : Cond.instanceMethod mX11_zero.1 ∈ aTb := aI6 103 rfl rfl
theorem wlX11_zero : Cond.selects mX11_zero.1.cls mX11_zero.1 mX11_zero.1 ∈ aTb := aJ 73 rfl rfl
def mX11_copy : aMd := (yX11_copy, cX11_copy, 4, none, { frames := 0, cells := 0, slots := 0, locals := 0 })
theorem wmX11_copy : aWm mX11_copy := ⟨aI6 117 rfl rfl, aI1 13 rfl rfl, by decide, by decide⟩
theorem pnX11_copy : aPn mX11_copy 2 := pd8
theorem plX11_copy : plainFor mX11_copy.1 = true := plainFor_of_name pkX11
theorem wiX11_copy : Cond.instanceMethod mX11_copy.1 ∈ aTb := aI6 116 rfl rfl
theorem wlX11_copy : Cond.selects mX11_copy.1.cls mX11_copy.1 mX11_copy.1 ∈ aTb := aJ 76 rfl rfl
def mX11_step : aMd := (yX11_step, cX11_step, 11, none, { frames := 0, cells := 0, slots := 0, locals := 0 })
theorem wmX11_step : aWm mX11_step := ⟨aI6 113 rfl rfl, aI1 13 rfl rfl, by decide, by decide⟩
theorem pnX11_step : aPn mX11_step 3 := pd19
theorem plX11_step : plainFor mX11_step.1 = true := plainFor_of_name pkX11
theorem wiX11_step : Cond.instanceMethod mX11_step.1 ∈ aTb := aI6 112 rfl rfl
theorem wlX11_step : Cond.selects mX11_step.1.cls mX11_step.1 mX11_step.1 ∈ aTb := aJ 75 rfl rfl
def mX11_add : aMd := (yX11_add, cX11_add, 10, none, { frames := 0, cells := 0, slots := 0, locals := 0 })
theorem wmX11_add : aWm mX11_add := ⟨aI6 108 rfl rfl, aI1 13 rfl rfl, by decide, by decide⟩
theorem pnX11_add : aPn mX11_add 3 := pd16
theorem plX11_add : plainFor mX11_add.1 = true := plainFor_of_name pkX11
theorem wiX11_add : Cond.instanceMethod mX11_add.1 ∈ aTb := aI6 107 rfl rfl
theorem wlX11_add : Cond.selects mX11_add.1.cls mX11_add.1 mX11_add.1 ∈ aTb := aJ 74 rfl rfl
def mX11_less : aMd := (yX11_less, cX11_less, 8, none, { frames := 0, cells := 0, slots := 0, locals := 0 })
theorem wmX11_less : aWm mX11_less := ⟨aI6 125 rfl rfl, aI1 13 rfl rfl, by decide, by decide⟩
theorem pnX11_less : aPn mX11_less 2 := pd8
theorem plX11_less : plainFor mX11_less.1 = true := plainFor_of_name pkX11
theorem wiX11_less : Cond.instanceMethod mX11_less.1 ∈ aTb := aI6 124 rfl rfl
theorem wlX11_less : Cond.selects mX11_less.1.cls mX11_less.1 mX11_less.1 ∈ aTb := aJ 78 rfl rfl
def mX11_compare : aMd := (yX11_compare, cX11_compare, 6, some .int, { frames := 0, cells := 0, slots := 0, locals := 0 })
theorem wmX11_compare : aWm mX11_compare := ⟨aI6 121 rfl rfl, aI1 13 rfl rfl, by decide, by decide⟩
theorem pnX11_compare : aPn mX11_compare 2 := pd6
theorem plX11_compare : plainFor mX11_compare.1 = true := plainFor_of_name pkX11
theorem wiX11_compare : Cond.instanceMethod mX11_compare.1 ∈ aTb := aI6 120 rfl rfl
theorem wlX11_compare : Cond.selects mX11_compare.1.cls mX11_compare.1 mX11_compare.1 ∈ aTb := aJ 77 rfl rfl
def mX11_isZero : aMd := (yX11_isZero, cX11_isZero, 4, some .boolean, { frames := 0, cells := 0, slots := 0, locals := 0 })
theorem wmX11_isZero : aWm mX11_isZero := ⟨aI6 137 rfl rfl, aI1 13 rfl rfl, by decide, by decide⟩
theorem pnX11_isZero : aPn mX11_isZero 1 := pd5
theorem plX11_isZero : plainFor mX11_isZero.1 = true := plainFor_of_name pkX11
theorem wiX11_isZero : Cond.instanceMethod mX11_isZero.1 ∈ aTb := aI6 136 rfl rfl
theorem wlX11_isZero : Cond.selects mX11_isZero.1.cls mX11_isZero.1 mX11_isZero.1 ∈ aTb := aJ 81 rfl rfl
def mX11_halve : aMd := (yX11_halve, cX11_halve, 7, none, { frames := 0, cells := 0, slots := 0, locals := 0 })
theorem wmX11_halve : aWm mX11_halve := ⟨aI6 145 rfl rfl, aI1 13 rfl rfl, by decide, by decide⟩
theorem pnX11_halve : aPn mX11_halve 1 := pd4
theorem plX11_halve : plainFor mX11_halve.1 = true := plainFor_of_name pkX11
theorem wiX11_halve : Cond.instanceMethod mX11_halve.1 ∈ aTb := aI6 144 rfl rfl
theorem wlX11_halve : Cond.selects mX11_halve.1.cls mX11_halve.1 mX11_halve.1 ∈ aTb := aJ 83 rfl rfl
def mX11_isOdd : aMd := (yX11_isOdd, cX11_isOdd, 2, some .boolean, { frames := 0, cells := 0, slots := 0, locals := 0 })
theorem wmX11_isOdd : aWm mX11_isOdd := ⟨aI6 141 rfl rfl, aI1 13 rfl rfl, by decide, by decide⟩
theorem pnX11_isOdd : aPn mX11_isOdd 1 := pd5
theorem plX11_isOdd : plainFor mX11_isOdd.1 = true := plainFor_of_name pkX11
theorem wiX11_isOdd : Cond.instanceMethod mX11_isOdd.1 ∈ aTb := aI6 140 rfl rfl
theorem wlX11_isOdd : Cond.selects mX11_isOdd.1.cls mX11_isOdd.1 mX11_isOdd.1 ∈ aTb := aJ 82 rfl rfl
def mX11_divisor : aMd := (yX11_divisor, cX11_divisor, 6, none, { frames := 1, cells := 0, slots := 0, locals := 30 })
theorem wmX11_divisor : aWm mX11_divisor := ⟨aI6 133 rfl rfl, aI1 13 rfl rfl, by decide, by decide⟩
theorem pnX11_divisor : aPn mX11_divisor 3 := pd12
theorem plX11_divisor : plainFor mX11_divisor.1 = true := plainFor_of_name pkX11
theorem wiX11_divisor : Cond.instanceMethod mX11_divisor.1 ∈ aTb := aI6 132 rfl rfl
theorem wlX11_divisor : Cond.selects mX11_divisor.1.cls mX11_divisor.1 mX11_divisor.1 ∈ aTb := aJ 80 rfl rfl
def mX11_divide_ : aMd := (yX11_divide_, cX11_divide_, 13, none, { frames := 1, cells := 0, slots := 0, locals := 29 })
theorem wmX11_divide_ : aWm mX11_divide_ := ⟨aI6 149 rfl rfl, aI1 13 rfl rfl, by decide, by decide⟩
theorem pnX11_divide_ : aPn mX11_divide_ 3 := pd12
theorem plX11_divide_ : plainFor mX11_divide_.1 = true := plainFor_of_name pkX11
theorem wiX11_divide_ : Cond.instanceMethod mX11_divide_.1 ∈ aTb := aI6 148 rfl rfl
theorem wlX11_divide_ : Cond.selects mX11_divide_.1.cls mX11_divide_.1 mX11_divide_.1 ∈ aTb := aJ 84 rfl rfl
def mX11_moved : aMd := (yX11_moved, cX11_moved, 10, none, { frames := 0, cells := 0, slots := 0, locals := 0 })
theorem wmX11_moved : aWm mX11_moved := ⟨aI6 153 rfl rfl, aI1 13 rfl rfl, by decide, by decide⟩
theorem pnX11_moved : aPn mX11_moved 3 := pd18
theorem plX11_moved : plainFor mX11_moved.1 = true := plainFor_of_name pkX11
theorem wiX11_moved : Cond.instanceMethod mX11_moved.1 ∈ aTb := aI6 152 rfl rfl
theorem wlX11_moved : Cond.selects mX11_moved.1.cls mX11_moved.1 mX11_moved.1 ∈ aTb := aJ 85 rfl rfl
def mX11_join : aMd := (yX11_join, cX11_join, 13, some .boolean, { frames := 1, cells := 0, slots := 0, locals := 30 })
theorem wmX11_join : aWm mX11_join := ⟨aI6 100 rfl rfl, aI1 13 rfl rfl, by decide, by decide⟩
theorem pnX11_join : aPn mX11_join 2 := pd9
theorem plX11_join : plainFor mX11_join.1 = true := plainFor_of_name pkX11
theorem wiX11_join : Cond.instanceMethod mX11_join.1 ∈ aTb := aI6 99 rfl rfl
theorem wlX11_join : Cond.selects mX11_join.1.cls mX11_join.1 mX11_join.1 ∈ aTb := aJ 72 rfl rfl
def mX11_write : aMd := (yX11_write, cX11_write, 8, none, { frames := 0, cells := 0, slots := 0, locals := 0 })
theorem wmX11_write : aWm mX11_write := ⟨aI6 157 rfl rfl, aI1 13 rfl rfl, by decide, by decide⟩
theorem pnX11_write : aPn mX11_write 1 := pd4
theorem plX11_write : plainFor mX11_write.1 = true := plainFor_of_name pkX11
theorem wiX11_write : Cond.instanceMethod mX11_write.1 ∈ aTb := aI6 156 rfl rfl
theorem wlX11_write : Cond.selects mX11_write.1.cls mX11_write.1 mX11_write.1 ∈ aTb := aJ 86 rfl rfl
def mX11_tell : aMd := (yX11_tell, cX11_tell, 2, some .int, { frames := 2, cells := 0, slots := 0, locals := 61 })
theorem wmX11_tell : aWm mX11_tell := ⟨aI6 129 rfl rfl, aI1 13 rfl rfl, by decide, by decide⟩
theorem pnX11_tell : aPn mX11_tell 1 := pd38
theorem plX11_tell : plainFor mX11_tell.1 = true := plainFor_of_name pkX11
theorem wiX11_tell : Cond.instanceMethod mX11_tell.1 ∈ aTb := aI6 128 rfl rfl
theorem wlX11_tell : Cond.selects mX11_tell.1.cls mX11_tell.1 mX11_tell.1 ∈ aTb := aJ 79 rfl rfl
def mX11_fraction : aMd := (yX11_fraction, cX11_fraction, 4, some .boolean, { frames := 2, cells := 0, slots := 0, locals := 62 })
theorem wmX11_fraction : aWm mX11_fraction := ⟨aI6 96 rfl rfl, aI1 13 rfl rfl, by decide, by decide⟩
theorem pnX11_fraction : aPn mX11_fraction 1 := pd5
theorem plX11_fraction : plainFor mX11_fraction.1 = true := plainFor_of_name pkX11
theorem wiX11_fraction : Cond.instanceMethod mX11_fraction.1 ∈ aTb := aI6 95 rfl rfl
theorem wlX11_fraction : Cond.selects mX11_fraction.1.cls mX11_fraction.1 mX11_fraction.1 ∈ aTb := aJ 71 rfl rfl
def mX11_place : aMd := (yX11_place, cX11_place, 3, some .int, { frames := 3, cells := 0, slots := 0, locals := 85 })
theorem wmX11_place : aWm mX11_place := ⟨aI6 92 rfl rfl, aI1 13 rfl rfl, by decide, by decide⟩
theorem pnX11_place : aPn mX11_place 2 := pd6
theorem plX11_place : plainFor mX11_place.1 = true := plainFor_of_name pkX11
theorem wiX11_place : Cond.instanceMethod mX11_place.1 ∈ aTb := aI6 90 rfl rfl
theorem wlX11_place : Cond.selects mX11_place.1.cls mX11_place.1 mX11_place.1 ∈ aTb := aI6 91 rfl rfl
def mX11_move : aMd := (yX11_move, cX11_move, 4, some .int, { frames := 3, cells := 0, slots := 0, locals := 85 })
theorem wmX11_move : aWm mX11_move := ⟨aI6 164 rfl rfl, aI1 13 rfl rfl, by decide, by decide⟩
theorem pnX11_move : aPn mX11_move 2 := pd6
theorem plX11_move : plainFor mX11_move.1 = true := plainFor_of_name pkX11
theorem wiX11_move : Cond.instanceMethod mX11_move.1 ∈ aTb := aI6 162 rfl rfl
theorem wlX11_move : Cond.selects mX11_move.1.cls mX11_move.1 mX11_move.1 ∈ aTb := aI6 163 rfl rfl
def mX11_energy : aMd := (yX11_energy, cX11_energy, 1, some .int, { frames := 3, cells := 0, slots := 0, locals := 85 })
theorem wmX11_energy : aWm mX11_energy := ⟨aI6 169 rfl rfl, aI1 13 rfl rfl, by decide, by decide⟩
theorem pnX11_energy : aPn mX11_energy 0 := pd0
theorem plX11_energy : plainFor mX11_energy.1 = true := plainFor_of_name pkX11
theorem wiX11_energy : Cond.instanceMethod mX11_energy.1 ∈ aTb := aI6 167 rfl rfl
theorem wlX11_energy : Cond.selects mX11_energy.1.cls mX11_energy.1 mX11_energy.1 ∈ aTb := aI6 168 rfl rfl
def mX11_near : aMd := (yX11_near, cX11_near, 5, some .int, { frames := 3, cells := 0, slots := 0, locals := 85 })
theorem wmX11_near : aWm mX11_near := ⟨aI6 173 rfl rfl, aI1 13 rfl rfl, by decide, by decide⟩
theorem pnX11_near : aPn mX11_near 2 := pd6
theorem plX11_near : plainFor mX11_near.1 = true := plainFor_of_name pkX11
theorem wiX11_near : Cond.instanceMethod mX11_near.1 ∈ aTb := aI6 171 rfl rfl
theorem wlX11_near : Cond.selects mX11_near.1.cls mX11_near.1 mX11_near.1 ∈ aTb := aI6 172 rfl rfl
def mX11_text : aMd := (yX11_text, cX11_text, 2, some .int, { frames := 1, cells := 0, slots := 0, locals := 23 })
theorem wmX11_text : aWm mX11_text := ⟨aI6 177 rfl rfl, aI1 13 rfl rfl, by decide, by decide⟩
theorem pnX11_text : aPn mX11_text 1 := pd3
theorem plX11_text : plainFor mX11_text.1 = true := plainFor_of_name pkX11
theorem wiX11_text : Cond.instanceMethod mX11_text.1 ∈ aTb := aI6 175 rfl rfl
theorem wlX11_text : Cond.selects mX11_text.1.cls mX11_text.1 mX11_text.1 ∈ aTb := aI6 176 rfl rfl
def mX11_shifts : aMd := (yX11_shifts, cX11_shifts, 5, none, { frames := 2, cells := 0, slots := 0, locals := 47 })
theorem wmX11_shifts : aWm mX11_shifts := ⟨aI6 185 rfl rfl, aI1 13 rfl rfl, by decide, by decide⟩
theorem pnX11_shifts : aPn mX11_shifts 0 := pd2
theorem plX11_shifts : plainFor mX11_shifts.1 = true := plainFor_of_name pkX11
theorem wiX11_shifts : Cond.instanceMethod mX11_shifts.1 ∈ aTb := aI6 184 rfl rfl
theorem wlX11_shifts : Cond.selects mX11_shifts.1.cls mX11_shifts.1 mX11_shifts.1 ∈ aTb := aJ 87 rfl rfl
def mX11_pure : aMd := (yX11_pure, cX11_pure, 3, some .int, { frames := 3, cells := 0, slots := 0, locals := 71 })
theorem wmX11_pure : aWm mX11_pure := ⟨aI6 181 rfl rfl, aI1 13 rfl rfl, by decide, by decide⟩
theorem pnX11_pure : aPn mX11_pure 2 := pd6
theorem plX11_pure : plainFor mX11_pure.1 = true := plainFor_of_name pkX11
theorem wiX11_pure : Cond.instanceMethod mX11_pure.1 ∈ aTb := aI6 179 rfl rfl
theorem wlX11_pure : Cond.selects mX11_pure.1.cls mX11_pure.1 mX11_pure.1 ∈ aTb := aI6 180 rfl rfl
def mX11_pump : aMd := (yX11_pump, cX11_pump, 6, some .int, { frames := 3, cells := 0, slots := 0, locals := 71 })
theorem wmX11_pump : aWm mX11_pump := ⟨aI6 189 rfl rfl, aI1 13 rfl rfl, by decide, by decide⟩
theorem pnX11_pump : aPn mX11_pump 2 := pd6
theorem plX11_pump : plainFor mX11_pump.1 = true := plainFor_of_name pkX11
theorem wiX11_pump : Cond.instanceMethod mX11_pump.1 ∈ aTb := aI6 187 rfl rfl
theorem wlX11_pump : Cond.selects mX11_pump.1.cls mX11_pump.1 mX11_pump.1 ∈ aTb := aI6 188 rfl rfl
def mJ6_bitCount_0f7a4 : aMd := (yJ6_bitCount_0f7a4, cJ6_bitCount_0f7a4, 1, some .int, { frames := 0, cells := 0, slots := 0, locals := 0 })
theorem wmJ6_bitCount_0f7a4 : aWm mJ6_bitCount_0f7a4 := ⟨aI4 162 rfl rfl, aI1 16 rfl rfl, by decide, by decide⟩
theorem pnJ6_bitCount_0f7a4 : aPn mJ6_bitCount_0f7a4 1 := pd3
theorem plJ6_bitCount_0f7a4 : plainFor mJ6_bitCount_0f7a4.1 = true := by decide +kernel
theorem wsJ6_bitCount_0f7a4 : Cond.static mJ6_bitCount_0f7a4.1 ∈ aTb := aI4 161 rfl rfl
def mJ9_floorMod_7cf53 : aMd := (yJ9_floorMod_7cf53, cJ9_floorMod_7cf53, 3, some .int, { frames := 0, cells := 0, slots := 0, locals := 0 })
theorem wmJ9_floorMod_7cf53 : aWm mJ9_floorMod_7cf53 := ⟨aI3 73 rfl rfl, aI1 14 rfl rfl, by decide, by decide⟩
theorem pnJ9_floorMod_7cf53 : aPn mJ9_floorMod_7cf53 2 := pd6
theorem plJ9_floorMod_7cf53 : plainFor mJ9_floorMod_7cf53.1 = true := by decide +kernel
theorem wsJ9_floorMod_7cf53 : Cond.static mJ9_floorMod_7cf53.1 ∈ aTb := aI3 72 rfl rfl
def mJ9_floorMod_f86c9 : aMd := (yJ9_floorMod_f86c9, cJ9_floorMod_f86c9, 6, some .long, { frames := 0, cells := 0, slots := 0, locals := 0 })
theorem wmJ9_floorMod_f86c9 : aWm mJ9_floorMod_f86c9 := ⟨aI4 49 rfl rfl, aI1 14 rfl rfl, by decide, by decide⟩
theorem pnJ9_floorMod_f86c9 : aPn mJ9_floorMod_f86c9 2 := pd26
theorem plJ9_floorMod_f86c9 : plainFor mJ9_floorMod_f86c9.1 = true := by decide +kernel
theorem wsJ9_floorMod_f86c9 : Cond.static mJ9_floorMod_f86c9.1 ∈ aTb := aI4 48 rfl rfl
def mJ9_abs_0f7a4 : aMd := (yJ9_abs_0f7a4, cJ9_abs_0f7a4, 1, some .int, { frames := 0, cells := 0, slots := 0, locals := 0 })
theorem wmJ9_abs_0f7a4 : aWm mJ9_abs_0f7a4 := ⟨aI3 122 rfl rfl, aI1 14 rfl rfl, by decide, by decide⟩
theorem pnJ9_abs_0f7a4 : aPn mJ9_abs_0f7a4 1 := pd3
theorem plJ9_abs_0f7a4 : plainFor mJ9_abs_0f7a4.1 = true := by decide +kernel
theorem wsJ9_abs_0f7a4 : Cond.static mJ9_abs_0f7a4.1 ∈ aTb := aI3 121 rfl rfl
def mJ9_max_7cf53 : aMd := (yJ9_max_7cf53, cJ9_max_7cf53, 2, some .int, { frames := 0, cells := 0, slots := 0, locals := 0 })
theorem wmJ9_max_7cf53 : aWm mJ9_max_7cf53 := ⟨aI2 222 rfl rfl, aI1 14 rfl rfl, by decide, by decide⟩
theorem pnJ9_max_7cf53 : aPn mJ9_max_7cf53 2 := pd6
theorem plJ9_max_7cf53 : plainFor mJ9_max_7cf53.1 = true := by decide +kernel
theorem wsJ9_max_7cf53 : Cond.static mJ9_max_7cf53.1 ∈ aTb := aI2 221 rfl rfl
def mJ9_min_7cf53 : aMd := (yJ9_min_7cf53, cJ9_min_7cf53, 2, some .int, { frames := 0, cells := 0, slots := 0, locals := 0 })
theorem wmJ9_min_7cf53 : aWm mJ9_min_7cf53 := ⟨aI2 215 rfl rfl, aI1 14 rfl rfl, by decide, by decide⟩
theorem pnJ9_min_7cf53 : aPn mJ9_min_7cf53 2 := pd6
theorem plJ9_min_7cf53 : plainFor mJ9_min_7cf53.1 = true := by decide +kernel
theorem wsJ9_min_7cf53 : Cond.static mJ9_min_7cf53.1 ∈ aTb := aI2 214 rfl rfl
def mJ7_fill_d0a16 : aMd := (yJ7_fill_d0a16, cJ7_fill_d0a16, 5, none, { frames := 0, cells := 0, slots := 0, locals := 0 })
theorem wmJ7_fill_d0a16 : aWm mJ7_fill_d0a16 := ⟨aI3 231 rfl rfl, aI1 15 rfl rfl, by decide, by decide⟩
theorem pnJ7_fill_d0a16 : aPn mJ7_fill_d0a16 2 := pd41
theorem plJ7_fill_d0a16 : plainFor mJ7_fill_d0a16.1 = true := by decide +kernel
theorem wsJ7_fill_d0a16 : Cond.static mJ7_fill_d0a16.1 ∈ aTb := aI3 230 rfl rfl
def mJ7_fill_53178 : aMd := (yJ7_fill_53178, cJ7_fill_53178, 4, none, { frames := 0, cells := 0, slots := 0, locals := 0 })
theorem wmJ7_fill_53178 : aWm mJ7_fill_53178 := ⟨aI4 88 rfl rfl, aI1 15 rfl rfl, by decide, by decide⟩
theorem pnJ7_fill_53178 : aPn mJ7_fill_53178 2 := pd40
theorem plJ7_fill_53178 : plainFor mJ7_fill_53178.1 = true := by decide +kernel
theorem wsJ7_fill_53178 : Cond.static mJ7_fill_53178.1 ∈ aTb := aI4 87 rfl rfl
end
section
theorem loX10_3 : Cond.methodLink RX10 3 objectInit ∈ aTb := aI1 22 rfl rfl
theorem lfX10_9 : aLkF RX10 9 10 0 := ⟨_, _, _, rfl, by decide, aC10, aI2 144 rfl rfl, rfl, tyX10_ok, nmX10⟩
theorem lcX10_13 : Cond.classLink RX10 13 RX3 ∈ aTb := aI1 25 rfl rfl
theorem lnX10_13 : aLkN RX10 13 3 := ⟨_, _, _, rfl, aC3, lcX10_13, aCi3, aCz3, tyX3_ok, aTk3⟩
theorem lmX10_15 : Cond.methodLink RX10 15 mX3_init.1 ∈ aTb := aI1 27 rfl rfl
theorem lfX10_16 : aLkF RX10 16 10 1 := ⟨_, _, _, rfl, by decide, aC10, aI2 145 rfl rfl, rfl, tyX10_ok, nmX10⟩
theorem lcX10_20 : Cond.classLink RX10 20 RX5 ∈ aTb := aI1 73 rfl rfl
theorem lnX10_20 : aLkN RX10 20 5 := ⟨_, _, _, rfl, aC5, lcX10_20, aCi5, aCz5, tyX5_ok, aTk5⟩
theorem lmX10_22 : Cond.methodLinkNest RX10 22 mX5_init.1 "JustMoves" ∈ aNs := List.mem_of_getElem? (i := 4) rfl
theorem lfX10_23 : aLkF RX10 23 10 2 := ⟨_, _, _, rfl, by decide, aC10, aI2 146 rfl rfl, rfl, tyX10_ok, nmX10⟩
theorem lcX10_27 : Cond.classLink RX10 27 RX2 ∈ aTb := aI1 150 rfl rfl
theorem lnX10_27 : aLkN RX10 27 2 := ⟨_, _, _, rfl, aC2, lcX10_27, aCi2, aCz2, tyX2_ok, aTk2⟩
theorem lmX10_29 : Cond.methodLinkNest RX10 29 mX2_init.1 "JustMoves" ∈ aNs := List.mem_of_getElem? (i := 5) rfl
theorem lfX10_30 : aLkF RX10 30 10 8 := ⟨_, _, _, rfl, by decide, aC10, aI2 152 rfl rfl, rfl, tyX10_ok, nmX10⟩
theorem lcX10_34 : Cond.classLink RX10 34 RX8 ∈ aTb := aI1 187 rfl rfl
theorem lnX10_34 : aLkN RX10 34 8 := ⟨_, _, _, rfl, aC8, lcX10_34, aCi8, aCz8, tyX8_ok, aTk8⟩
theorem lmX10_36 : Cond.methodLinkNest RX10 36 mX8_init.1 "JustMoves" ∈ aNs := List.mem_of_getElem? (i := 7) rfl
theorem lfX10_37 : aLkF RX10 37 10 9 := ⟨_, _, _, rfl, by decide, aC10, aI2 153 rfl rfl, rfl, tyX10_ok, nmX10⟩
theorem lgX10_41 : Cond.fieldLink RX10 41 "JustMoves" "FIRST_WEIGHTS" "[I" ∈ aTb := aI1 203 rfl rfl
theorem lyX10_44 : Cond.methodLink RX10 44 arraycopyName ∈ aTb := aI1 205 rfl rfl
theorem lcX10_50 : Cond.classLink RX10 50 RX4 ∈ aTb := aI1 208 rfl rfl
theorem lnX10_50 : aLkN RX10 50 4 := ⟨_, _, _, rfl, aC4, lcX10_50, aCi4, aCz4, tyX4_ok, aTk4⟩
theorem lmX10_52 : Cond.methodLink RX10 52 mX4_init.1 ∈ aTb := aI1 210 rfl rfl
theorem lfX10_55 : aLkF RX10 55 10 3 := ⟨_, _, _, rfl, by decide, aC10, aI2 147 rfl rfl, rfl, tyX10_ok, nmX10⟩
theorem lcX10_59 : Cond.classLink RX10 59 RX1 ∈ aTb := aI1 226 rfl rfl
theorem lnX10_59 : aLkN RX10 59 1 := ⟨_, _, _, rfl, aC1, lcX10_59, aCi1, aCz1, tyX1_ok, aTk1⟩
theorem lmX10_61 : Cond.methodLink RX10 61 mX1_init.1 ∈ aTb := aI1 228 rfl rfl
theorem lfX10_64 : aLkF RX10 64 10 4 := ⟨_, _, _, rfl, by decide, aC10, aI2 148 rfl rfl, rfl, tyX10_ok, nmX10⟩
theorem lcX10_68 : Cond.classLink RX10 68 RX0 ∈ aTb := aI2 27 rfl rfl
theorem lnX10_68 : aLkN RX10 68 0 := ⟨_, _, _, rfl, aC0, lcX10_68, aCi0, aCz0, tyX0_ok, aTk0⟩
theorem lmX10_70 : Cond.methodLink RX10 70 mX0_init.1 ∈ aTb := aI2 29 rfl rfl
theorem lfX10_73 : aLkF RX10 73 10 5 := ⟨_, _, _, rfl, by decide, aC10, aI2 149 rfl rfl, rfl, tyX10_ok, nmX10⟩
theorem lcX10_77 : Cond.classLink RX10 77 RX7 ∈ aTb := aI2 64 rfl rfl
theorem lnX10_77 : aLkN RX10 77 7 := ⟨_, _, _, rfl, aC7, lcX10_77, aCi7, aCz7, tyX7_ok, aTk7⟩
theorem lmX10_79 : Cond.methodLink RX10 79 mX7_init.1 ∈ aTb := aI2 66 rfl rfl
theorem lfX10_82 : aLkF RX10 82 10 6 := ⟨_, _, _, rfl, by decide, aC10, aI2 150 rfl rfl, rfl, tyX10_ok, nmX10⟩
theorem lcX10_86 : Cond.classLink RX10 86 RX6 ∈ aTb := aI2 108 rfl rfl
theorem lnX10_86 : aLkN RX10 86 6 := ⟨_, _, _, rfl, aC6, lcX10_86, aCi6, aCz6, tyX6_ok, aTk6⟩
theorem lmX10_88 : Cond.methodLink RX10 88 mX6_init.1 ∈ aTb := aI2 110 rfl rfl
theorem lfX10_91 : aLkF RX10 91 10 7 := ⟨_, _, _, rfl, by decide, aC10, aI2 151 rfl rfl, rfl, tyX10_ok, nmX10⟩
theorem lmX10_95 : Cond.methodLink RX10 95 mX5_isFullFor.1 ∈ aTb := aI2 185 rfl rfl
theorem lmX10_99 : Cond.methodLink RX10 99 mX10_forget.1 ∈ aTb := aI2 197 rfl rfl
theorem lmX10_102 : Cond.methodLink RX10 102 mX5_append.1 ∈ aTb := aI2 201 rfl rfl
theorem lmX10_106 : Cond.methodLink RX10 106 mX5_removeAll.1 ∈ aTb := aI2 239 rfl rfl
theorem lmX10_110 : Cond.methodLink RX10 110 mX5_hasNote.1 ∈ aTb := aI3 7 rfl rfl
theorem lmX10_114 : Cond.methodLink RX10 114 mX5_tie.1 ∈ aTb := aI3 11 rfl rfl
theorem lmX10_118 : Cond.methodLink RX10 118 mX3_isAllowed.1 ∈ aTb := aI3 19 rfl rfl
theorem lmX10_121 : Cond.methodLink RX10 121 mX3_holds.1 ∈ aTb := aI3 28 rfl rfl
theorem lfX10_125 : aLkF RX10 125 3 4 := ⟨_, _, _, rfl, by decide, aC3, aI1 60 rfl rfl, rfl, tyX3_ok, nmX3⟩
theorem lmX10_128 : Cond.methodLink RX10 128 mX3_append.1 ∈ aTb := aI3 32 rfl rfl
theorem lmX10_129 : Cond.methodLink RX10 129 mX3_removeAll.1 ∈ aTb := aI3 37 rfl rfl
theorem lgX10_132 : Cond.fieldLink RX10 132 "JustMoves" "GREATEST_WEIGHTS" "[I" ∈ aTb := aI3 45 rfl rfl
theorem lfX10_135 : aLkF RX10 135 5 5 := ⟨_, _, _, rfl, by decide, aC5, aI1 91 rfl rfl, rfl, tyX5_ok, nmX5⟩
theorem lmX10_139 : Cond.methodLink RX10 139 mX5_hasSet.1 ∈ aTb := aI3 55 rfl rfl
theorem lfX10_142 : aLkF RX10 142 5 6 := ⟨_, _, _, rfl, by decide, aC5, aI1 93 rfl rfl, rfl, tyX5_ok, nmX5⟩
theorem lfX10_145 : aLkF RX10 145 5 7 := ⟨_, _, _, rfl, by decide, aC5, aI1 95 rfl rfl, rfl, tyX5_ok, nmX5⟩
theorem lfX10_148 : aLkF RX10 148 5 8 := ⟨_, _, _, rfl, by decide, aC5, aI1 98 rfl rfl, rfl, tyX5_ok, nmX5⟩
theorem lfX10_151 : aLkF RX10 151 5 9 := ⟨_, _, _, rfl, by decide, aC5, aI1 102 rfl rfl, rfl, tyX5_ok, nmX5⟩
theorem lmX10_154 : Cond.methodLink RX10 154 mX4_countOf.1 ∈ aTb := aI3 59 rfl rfl
theorem lmX10_157 : Cond.methodLink RX10 157 mX5_isIn.1 ∈ aTb := aI3 78 rfl rfl
theorem lmX10_160 : Cond.methodLink RX10 160 mX4_has.1 ∈ aTb := aI3 83 rfl rfl
theorem lmX10_163 : Cond.methodLink RX10 163 mX5_isPart.1 ∈ aTb := aI3 89 rfl rfl
theorem lmX10_166 : Cond.methodLink RX10 166 mX4_open.1 ∈ aTb := aI3 95 rfl rfl
theorem lfX10_170 : aLkF RX10 170 3 0 := ⟨_, _, _, rfl, by decide, aC3, aI1 51 rfl rfl, rfl, tyX3_ok, nmX3⟩
theorem lfX10_173 : aLkF RX10 173 4 2 := ⟨_, _, _, rfl, by decide, aC4, aI1 218 rfl rfl, rfl, tyX4_ok, nmX4⟩
theorem lfX10_176 : aLkF RX10 176 3 1 := ⟨_, _, _, rfl, by decide, aC3, aI1 53 rfl rfl, rfl, tyX3_ok, nmX3⟩
theorem lmX10_179 : Cond.methodLink RX10 179 mX4_targetOf.1 ∈ aTb := aI3 99 rfl rfl
theorem lmX10_183 : Cond.methodLink RX10 183 mX4_harshness.1 ∈ aTb := aI3 112 rfl rfl
theorem lmX10_186 : Cond.methodLink RX10 186 mX4_leastCount.1 ∈ aTb := aI3 127 rfl rfl
theorem lkX10_189 : Cond.constantLong RX10 189 (-2) ∈ aTb := aI3 132 rfl rfl
theorem lmX10_191 : Cond.methodLink RX10 191 mX4_greatestCount.1 ∈ aTb := aI3 133 rfl rfl
theorem lkX10_194 : Cond.constantLong RX10 194 (-3) ∈ aTb := aI3 138 rfl rfl
theorem lfX10_196 : aLkF RX10 196 10 11 := ⟨_, _, _, rfl, by decide, aC10, aI2 155 rfl rfl, rfl, tyX10_ok, nmX10⟩
theorem lfX10_200 : aLkF RX10 200 10 10 := ⟨_, _, _, rfl, by decide, aC10, aI2 154 rfl rfl, rfl, tyX10_ok, nmX10⟩
theorem lmX10_203 : Cond.methodLink RX10 203 mX1_make.1 ∈ aTb := aI3 139 rfl rfl
theorem lmX10_207 : Cond.methodLink RX10 207 mX0_make.1 ∈ aTb := aI3 186 rfl rfl
theorem lfX10_209 : aLkF RX10 209 1 3 := ⟨_, _, _, rfl, by decide, aC1, aI1 238 rfl rfl, rfl, tyX1_ok, nmX1⟩
theorem lfX10_212 : aLkF RX10 212 5 11 := ⟨_, _, _, rfl, by decide, aC5, aI1 108 rfl rfl, rfl, tyX5_ok, nmX5⟩
theorem lmX10_215 : Cond.methodLink RX10 215 mX7_gather.1 ∈ aTb := aI3 220 rfl rfl
theorem lmX10_218 : Cond.methodLink RX10 218 mX6_run.1 ∈ aTb := aI4 33 rfl rfl
theorem lmX10_221 : Cond.methodLink RX10 221 mX5_variableOf.1 ∈ aTb := aI4 98 rfl rfl
theorem lfX10_224 : aLkF RX10 224 7 5 := ⟨_, _, _, rfl, by decide, aC7, aI2 79 rfl rfl, rfl, tyX7_ok, nmX7⟩
theorem lmX10_227 : Cond.methodLink RX10 227 mX10_takeMove.1 ∈ aTb := aI4 107 rfl rfl
theorem lmX10_230 : Cond.methodLink RX10 230 mX5_equalOf.1 ∈ aTb := aI4 120 rfl rfl
theorem lmX10_233 : Cond.methodLink RX10 233 mX2_addWhole.1 ∈ aTb := aI4 124 rfl rfl
theorem lmX10_237 : Cond.methodLink RX10 237 mX8_write.1 ∈ aTb := aI4 146 rfl rfl
theorem lfX10_241 : aLkF RX10 241 6 1 := ⟨_, _, _, rfl, by decide, aC6, aI2 120 rfl rfl, rfl, tyX6_ok, nmX6⟩
theorem lmX10_245 : Cond.methodLink RX10 245 mX2_take.1 ∈ aTb := aI4 111 rfl rfl
theorem lmX10_249 : Cond.methodLink RX10 249 mX2_rounded.1 ∈ aTb := aI4 218 rfl rfl
theorem lfX10_252 : aLkF RX10 252 8 1 := ⟨_, _, _, rfl, by decide, aC8, aI1 196 rfl rfl, rfl, tyX8_ok, nmX8⟩
theorem lfX10_255 : aLkF RX10 255 8 0 := ⟨_, _, _, rfl, by decide, aC8, aI1 194 rfl rfl, rfl, tyX8_ok, nmX8⟩
theorem lfX10_259 : aLkF RX10 259 0 4 := ⟨_, _, _, rfl, by decide, aC0, aI2 38 rfl rfl, rfl, tyX0_ok, nmX0⟩
theorem lfX10_262 : aLkF RX10 262 0 5 := ⟨_, _, _, rfl, by decide, aC0, aI2 40 rfl rfl, rfl, tyX0_ok, nmX0⟩
theorem lfX10_265 : aLkF RX10 265 0 6 := ⟨_, _, _, rfl, by decide, aC0, aI2 42 rfl rfl, rfl, tyX0_ok, nmX0⟩
theorem lmX10_268 : Cond.methodLink RX10 268 mX0_findPump.1 ∈ aTb := aI4 239 rfl rfl
theorem lmX10_271 : Cond.methodLink RX10 271 mX0_ofPump.1 ∈ aTb := aI5 7 rfl rfl
theorem loX0_3 : Cond.methodLink RX0 3 objectInit ∈ aTb := aI2 32 rfl rfl
theorem lfX0_9 : aLkF RX0 9 0 4 := ⟨_, _, _, rfl, by decide, aC0, aI2 37 rfl rfl, rfl, tyX0_ok, nmX0⟩
theorem lfX0_15 : aLkF RX0 15 0 5 := ⟨_, _, _, rfl, by decide, aC0, aI2 39 rfl rfl, rfl, tyX0_ok, nmX0⟩
theorem lfX0_18 : aLkF RX0 18 0 6 := ⟨_, _, _, rfl, by decide, aC0, aI2 41 rfl rfl, rfl, tyX0_ok, nmX0⟩
theorem lfX0_21 : aLkF RX0 21 0 0 := ⟨_, _, _, rfl, by decide, aC0, aI2 33 rfl rfl, rfl, tyX0_ok, nmX0⟩
theorem lfX0_25 : aLkF RX0 25 0 1 := ⟨_, _, _, rfl, by decide, aC0, aI2 34 rfl rfl, rfl, tyX0_ok, nmX0⟩
theorem lfX0_29 : aLkF RX0 29 0 2 := ⟨_, _, _, rfl, by decide, aC0, aI2 35 rfl rfl, rfl, tyX0_ok, nmX0⟩
theorem lfX0_33 : aLkF RX0 33 0 3 := ⟨_, _, _, rfl, by decide, aC0, aI2 36 rfl rfl, rfl, tyX0_ok, nmX0⟩
theorem lfX0_37 : aLkF RX0 37 5 5 := ⟨_, _, _, rfl, by decide, aC5, aI1 86 rfl rfl, rfl, tyX5_ok, nmX5⟩
theorem lmX0_43 : Cond.methodLink RX0 43 mX5_findCommon.1 ∈ aTb := aI3 190 rfl rfl
theorem lfX0_47 : aLkF RX0 47 5 13 := ⟨_, _, _, rfl, by decide, aC5, aI1 110 rfl rfl, rfl, tyX5_ok, nmX5⟩
theorem lfX0_50 : aLkF RX0 50 5 14 := ⟨_, _, _, rfl, by decide, aC5, aI1 115 rfl rfl, rfl, tyX5_ok, nmX5⟩
theorem lmX0_53 : Cond.methodLink RX0 53 mX0_goOn.1 ∈ aTb := aI3 191 rfl rfl
theorem lmX0_57 : Cond.methodLink RX0 57 mX0_begin.1 ∈ aTb := aI3 202 rfl rfl
theorem lmX0_60 : Cond.methodLink RX0 60 mX0_driftOf.1 ∈ aTb := aI3 206 rfl rfl
theorem lyX0_64 : Cond.methodLink RX0 64 arraycopyName ∈ aTb := aI3 195 rfl rfl
theorem lmX0_70 : Cond.methodLink RX0 70 mX0_multiply.1 ∈ aTb := aI3 196 rfl rfl
theorem lfX0_74 : aLkF RX0 74 1 3 := ⟨_, _, _, rfl, by decide, aC1, aI1 237 rfl rfl, rfl, tyX1_ok, nmX1⟩
theorem lmX0_79 : Cond.methodLink RX0 79 mX4_open.1 ∈ aTb := aI3 200 rfl rfl
theorem lfX0_84 : aLkF RX0 84 4 2 := ⟨_, _, _, rfl, by decide, aC4, aI1 217 rfl rfl, rfl, tyX4_ok, nmX4⟩
theorem lfX0_87 : aLkF RX0 87 3 3 := ⟨_, _, _, rfl, by decide, aC3, aI1 57 rfl rfl, rfl, tyX3_ok, nmX3⟩
theorem lmX0_92 : Cond.methodLink RX0 92 mX4_octavesOf.1 ∈ aTb := aI3 201 rfl rfl
theorem lgX0_96 : Cond.fieldLinkNest RX0 96 "JustMoves" "LOGS" "[I" "JustMoves" ∈ aNs := List.mem_of_getElem? (i := 9) rfl
theorem lmX0_99 : Cond.methodLink RX0 99 mX5_baseKey.1 ∈ aTb := aI3 211 rfl rfl
theorem lmX0_102 : Cond.methodLink RX0 102 mX0_isPump.1 ∈ aTb := aI5 3 rfl rfl
theorem lfX0_106 : aLkF RX0 106 0 7 := ⟨_, _, _, rfl, by decide, aC0, aI2 43 rfl rfl, rfl, tyX0_ok, nmX0⟩
theorem lfX0_109 : aLkF RX0 109 0 8 := ⟨_, _, _, rfl, by decide, aC0, aI2 44 rfl rfl, rfl, tyX0_ok, nmX0⟩
theorem loX1_3 : Cond.methodLink RX1 3 objectInit ∈ aTb := aI1 231 rfl rfl
theorem lfX1_9 : aLkF RX1 9 1 3 := ⟨_, _, _, rfl, by decide, aC1, aI1 235 rfl rfl, rfl, tyX1_ok, nmX1⟩
theorem lfX1_15 : aLkF RX1 15 1 4 := ⟨_, _, _, rfl, by decide, aC1, aI1 239 rfl rfl, rfl, tyX1_ok, nmX1⟩
theorem lfX1_18 : aLkF RX1 18 1 5 := ⟨_, _, _, rfl, by decide, aC1, aI2 0 rfl rfl, rfl, tyX1_ok, nmX1⟩
theorem lfX1_22 : aLkF RX1 22 1 6 := ⟨_, _, _, rfl, by decide, aC1, aI2 1 rfl rfl, rfl, tyX1_ok, nmX1⟩
theorem lfX1_25 : aLkF RX1 25 1 7 := ⟨_, _, _, rfl, by decide, aC1, aI2 2 rfl rfl, rfl, tyX1_ok, nmX1⟩
theorem lfX1_28 : aLkF RX1 28 1 8 := ⟨_, _, _, rfl, by decide, aC1, aI2 3 rfl rfl, rfl, tyX1_ok, nmX1⟩
theorem lfX1_31 : aLkF RX1 31 1 9 := ⟨_, _, _, rfl, by decide, aC1, aI2 4 rfl rfl, rfl, tyX1_ok, nmX1⟩
theorem lfX1_34 : aLkF RX1 34 1 0 := ⟨_, _, _, rfl, by decide, aC1, aI1 232 rfl rfl, rfl, tyX1_ok, nmX1⟩
theorem lfX1_38 : aLkF RX1 38 1 1 := ⟨_, _, _, rfl, by decide, aC1, aI1 233 rfl rfl, rfl, tyX1_ok, nmX1⟩
theorem lfX1_42 : aLkF RX1 42 1 2 := ⟨_, _, _, rfl, by decide, aC1, aI1 234 rfl rfl, rfl, tyX1_ok, nmX1⟩
theorem lmX1_45 : Cond.methodLink RX1 45 mX1_countReadings.1 ∈ aTb := aI3 143 rfl rfl
theorem lfX1_48 : aLkF RX1 48 5 5 := ⟨_, _, _, rfl, by decide, aC5, aI1 87 rfl rfl, rfl, tyX5_ok, nmX5⟩
theorem lmX1_54 : Cond.methodLink RX1 54 mX1_weighReadings.1 ∈ aTb := aI3 149 rfl rfl
theorem lmX1_58 : Cond.methodLink RX1 58 mX1_joinNext.1 ∈ aTb := aI3 155 rfl rfl
theorem lyX1_61 : Cond.methodLink RX1 61 arraycopyName ∈ aTb := aI3 181 rfl rfl
theorem lmX1_67 : Cond.methodLink RX1 67 mX1_followLeast.1 ∈ aTb := aI3 182 rfl rfl
theorem lmX1_71 : Cond.methodLink RX1 71 mX4_countOf.1 ∈ aTb := aI3 147 rfl rfl
theorem lmX1_77 : Cond.methodLink RX1 77 mJ9_min_7cf53.1 ∈ aTb := aI3 148 rfl rfl
theorem lmX1_83 : Cond.methodLink RX1 83 mX4_open.1 ∈ aTb := aI3 153 rfl rfl
theorem lmX1_87 : Cond.methodLink RX1 87 mX4_harshness.1 ∈ aTb := aI3 154 rfl rfl
theorem lmX1_90 : Cond.methodLink RX1 90 mX5_findCommon.1 ∈ aTb := aI3 159 rfl rfl
theorem lmX1_93 : Cond.methodLink RX1 93 mX1_fillOffsets.1 ∈ aTb := aI3 163 rfl rfl
theorem lmX1_97 : Cond.methodLink RX1 97 mX1_joinReading.1 ∈ aTb := aI3 172 rfl rfl
theorem lmX1_100 : Cond.methodLink RX1 100 mX5_baseKey.1 ∈ aTb := aI3 167 rfl rfl
theorem lfX1_103 : aLkF RX1 103 5 13 := ⟨_, _, _, rfl, by decide, aC5, aI1 112 rfl rfl, rfl, tyX5_ok, nmX5⟩
theorem lfX1_106 : aLkF RX1 106 5 14 := ⟨_, _, _, rfl, by decide, aC5, aI1 117 rfl rfl, rfl, tyX5_ok, nmX5⟩
theorem lmX1_109 : Cond.methodLink RX1 109 mX4_targetOf.1 ∈ aTb := aI3 171 rfl rfl
theorem lkX1_112 : Cond.constantLong RX1 112 (4611686018427387904) ∈ aTb := aI3 176 rfl rfl
theorem lmX1_114 : Cond.methodLink RX1 114 mX1_strain.1 ∈ aTb := aI3 177 rfl rfl
theorem loX2_3 : Cond.methodLink RX2 3 objectInit ∈ aTb := aI1 155 rfl rfl
theorem lcX2_9 : Cond.classLink RX2 9 RX9 ∈ aTb := aI1 156 rfl rfl
theorem lnX2_9 : aLkN RX2 9 9 := ⟨_, _, _, rfl, aC9, lcX2_9, aCi9, aCz9, tyX9_ok, aTk9⟩
theorem lmX2_11 : Cond.methodLinkNest RX2 11 mX9_init.1 "JustMoves" ∈ aNs := List.mem_of_getElem? (i := 6) rfl
theorem lfX2_12 : aLkF RX2 12 2 0 := ⟨_, _, _, rfl, by decide, aC2, aI1 172 rfl rfl, rfl, tyX2_ok, nmX2⟩
theorem lfX2_18 : aLkF RX2 18 2 1 := ⟨_, _, _, rfl, by decide, aC2, aI1 174 rfl rfl, rfl, tyX2_ok, nmX2⟩
theorem lfX2_21 : aLkF RX2 21 2 2 := ⟨_, _, _, rfl, by decide, aC2, aI1 176 rfl rfl, rfl, tyX2_ok, nmX2⟩
theorem lfX2_24 : aLkF RX2 24 2 3 := ⟨_, _, _, rfl, by decide, aC2, aI1 177 rfl rfl, rfl, tyX2_ok, nmX2⟩
theorem lmX2_27 : Cond.methodLink RX2 27 mX9_copy.1 ∈ aTb := aI4 115 rfl rfl
theorem lmX2_31 : Cond.methodLink RX2 31 mX9_timesPlus.1 ∈ aTb := aI4 128 rfl rfl
theorem lmX2_35 : Cond.methodLink RX2 35 mX9_add.1 ∈ aTb := aI4 129 rfl rfl
theorem lmX2_38 : Cond.methodLink RX2 38 mX9_hasSize.1 ∈ aTb := aI4 154 rfl rfl
theorem lmX2_42 : Cond.methodLink RX2 42 mX9_become.1 ∈ aTb := aI4 155 rfl rfl
theorem lmX2_46 : Cond.methodLink RX2 46 mX9_twos.1 ∈ aTb := aI4 156 rfl rfl
theorem lmX2_50 : Cond.methodLink RX2 50 mJ9_min_7cf53.1 ∈ aTb := aI4 166 rfl rfl
theorem lmX2_56 : Cond.methodLink RX2 56 mX9_dropBits.1 ∈ aTb := aI4 167 rfl rfl
theorem lmX2_59 : Cond.methodLink RX2 59 mX2_findOddDivisor.1 ∈ aTb := aI4 175 rfl rfl
theorem lmX2_62 : Cond.methodLink RX2 62 mX9_divideByOdd.1 ∈ aTb := aI4 184 rfl rfl
theorem lmX2_65 : Cond.methodLink RX2 65 mX9_compareSize.1 ∈ aTb := aI4 179 rfl rfl
theorem lmX2_69 : Cond.methodLink RX2 69 mX9_subtractSize.1 ∈ aTb := aI4 180 rfl rfl
theorem lmX2_72 : Cond.methodLink RX2 72 mX2_quotientOfSizes.1 ∈ aTb := aI4 222 rfl rfl
theorem lfX2_75 : aLkF RX2 75 9 1 := ⟨_, _, _, rfl, by decide, aC9, aI1 165 rfl rfl, rfl, tyX9_ok, nmX9⟩
theorem lkX2_79 : Cond.constant RX2 79 (1073741824) ∈ aTb := aI4 226 rfl rfl
theorem loX3_3 : Cond.methodLink RX3 3 objectInit ∈ aTb := aI1 30 rfl rfl
theorem lfX3_9 : aLkF RX3 9 3 0 := ⟨_, _, _, rfl, by decide, aC3, aI1 50 rfl rfl, rfl, tyX3_ok, nmX3⟩
theorem lfX3_15 : aLkF RX3 15 3 1 := ⟨_, _, _, rfl, by decide, aC3, aI1 52 rfl rfl, rfl, tyX3_ok, nmX3⟩
theorem lfX3_18 : aLkF RX3 18 3 2 := ⟨_, _, _, rfl, by decide, aC3, aI1 54 rfl rfl, rfl, tyX3_ok, nmX3⟩
theorem lfX3_21 : aLkF RX3 21 3 3 := ⟨_, _, _, rfl, by decide, aC3, aI1 56 rfl rfl, rfl, tyX3_ok, nmX3⟩
theorem lfX3_24 : aLkF RX3 24 3 4 := ⟨_, _, _, rfl, by decide, aC3, aI1 58 rfl rfl, rfl, tyX3_ok, nmX3⟩
theorem lgX3_27 : Cond.fieldLinkNest RX3 27 "JustMoves" "FIRST_UP" "[I" "JustMoves" ∈ aNs := List.mem_of_getElem? (i := 0) rfl
theorem lgX3_30 : Cond.fieldLinkNest RX3 30 "JustMoves" "FIRST_DOWN" "[I" "JustMoves" ∈ aNs := List.mem_of_getElem? (i := 1) rfl
theorem lmX3_33 : Cond.methodLink RX3 33 mX3_append.1 ∈ aTb := aI1 35 rfl rfl
theorem lmX3_37 : Cond.methodLink RX3 37 mX3_store.1 ∈ aTb := aI1 39 rfl rfl
theorem lmX3_41 : Cond.methodLink RX3 41 mX3_hasSmallPrimes.1 ∈ aTb := aI3 22 rfl rfl
theorem lmX3_45 : Cond.methodLink RX3 45 mX3_shareSmallPrime.1 ∈ aTb := aI3 25 rfl rfl
theorem lgX3_49 : Cond.fieldLinkNest RX3 49 "JustMoves" "PRIMES" "[I" "JustMoves" ∈ aNs := List.mem_of_getElem? (i := 2) rfl
theorem lmX3_52 : Cond.methodLink RX3 52 mX3_powerIn.1 ∈ aTb := aI1 45 rfl rfl
theorem lgX3_56 : Cond.fieldLinkNest RX3 56 "JustMoves" "LOGS" "[I" "JustMoves" ∈ aNs := List.mem_of_getElem? (i := 3) rfl
theorem lmX3_59 : Cond.methodLink RX3 59 mJ9_abs_0f7a4.1 ∈ aTb := aI3 120 rfl rfl
theorem loX4_3 : Cond.methodLink RX4 3 objectInit ∈ aTb := aI1 213 rfl rfl
theorem lfX4_9 : aLkF RX4 9 4 2 := ⟨_, _, _, rfl, by decide, aC4, aI1 216 rfl rfl, rfl, tyX4_ok, nmX4⟩
theorem lfX4_15 : aLkF RX4 15 4 0 := ⟨_, _, _, rfl, by decide, aC4, aI1 214 rfl rfl, rfl, tyX4_ok, nmX4⟩
theorem lfX4_19 : aLkF RX4 19 4 1 := ⟨_, _, _, rfl, by decide, aC4, aI1 215 rfl rfl, rfl, tyX4_ok, nmX4⟩
theorem lmX4_23 : Cond.methodLink RX4 23 mX5_hasSet.1 ∈ aTb := aI3 87 rfl rfl
theorem lmX4_29 : Cond.methodLink RX4 29 mX4_countOf.1 ∈ aTb := aI3 88 rfl rfl
theorem lfX4_33 : aLkF RX4 33 5 9 := ⟨_, _, _, rfl, by decide, aC5, aI1 100 rfl rfl, rfl, tyX5_ok, nmX5⟩
theorem lfX4_36 : aLkF RX4 36 5 10 := ⟨_, _, _, rfl, by decide, aC5, aI1 104 rfl rfl, rfl, tyX5_ok, nmX5⟩
theorem lfX4_39 : aLkF RX4 39 5 8 := ⟨_, _, _, rfl, by decide, aC5, aI1 97 rfl rfl, rfl, tyX5_ok, nmX5⟩
theorem lfX4_42 : aLkF RX4 42 3 4 := ⟨_, _, _, rfl, by decide, aC3, aI1 59 rfl rfl, rfl, tyX3_ok, nmX3⟩
theorem lmX4_47 : Cond.methodLink RX4 47 mX4_typeOf.1 ∈ aTb := aI3 63 rfl rfl
theorem lfX4_51 : aLkF RX4 51 5 5 := ⟨_, _, _, rfl, by decide, aC5, aI1 90 rfl rfl, rfl, tyX5_ok, nmX5⟩
theorem lmX4_55 : Cond.methodLink RX4 55 mJ9_min_7cf53.1 ∈ aTb := aI3 131 rfl rfl
theorem lmX4_60 : Cond.methodLink RX4 60 mJ9_max_7cf53.1 ∈ aTb := aI3 137 rfl rfl
theorem lfX4_63 : aLkF RX4 63 5 1 := ⟨_, _, _, rfl, by decide, aC5, aI1 81 rfl rfl, rfl, tyX5_ok, nmX5⟩
theorem lmX4_66 : Cond.methodLink RX4 66 mX4_stepsAboveBase.1 ∈ aTb := aI3 67 rfl rfl
theorem lmX4_69 : Cond.methodLink RX4 69 mJ9_floorMod_7cf53.1 ∈ aTb := aI3 71 rfl rfl
theorem lkX4_72 : Cond.constant RX4 72 (120000) ∈ aTb := aI3 103 rfl rfl
theorem lmX4_73 : Cond.methodLink RX4 73 mX4_octavesOf.1 ∈ aTb := aI3 104 rfl rfl
theorem lfX4_76 : aLkF RX4 76 3 2 := ⟨_, _, _, rfl, by decide, aC3, aI1 55 rfl rfl, rfl, tyX3_ok, nmX3⟩
theorem lmX4_77 : Cond.methodLink RX4 77 mX4_targetOf.1 ∈ aTb := aI4 1 rfl rfl
theorem lmX4_80 : Cond.methodLink RX4 80 mX3_harshness.1 ∈ aTb := aI3 116 rfl rfl
theorem loX5_3 : Cond.methodLink RX5 3 objectInit ∈ aTb := aI1 78 rfl rfl
theorem lfX5_9 : aLkF RX5 9 5 1 := ⟨_, _, _, rfl, by decide, aC5, aI1 80 rfl rfl, rfl, tyX5_ok, nmX5⟩
theorem lfX5_15 : aLkF RX5 15 5 2 := ⟨_, _, _, rfl, by decide, aC5, aI1 82 rfl rfl, rfl, tyX5_ok, nmX5⟩
theorem lfX5_18 : aLkF RX5 18 5 3 := ⟨_, _, _, rfl, by decide, aC5, aI1 83 rfl rfl, rfl, tyX5_ok, nmX5⟩
theorem lfX5_21 : aLkF RX5 21 5 4 := ⟨_, _, _, rfl, by decide, aC5, aI1 84 rfl rfl, rfl, tyX5_ok, nmX5⟩
theorem lfX5_25 : aLkF RX5 25 5 6 := ⟨_, _, _, rfl, by decide, aC5, aI1 92 rfl rfl, rfl, tyX5_ok, nmX5⟩
theorem lfX5_28 : aLkF RX5 28 5 7 := ⟨_, _, _, rfl, by decide, aC5, aI1 94 rfl rfl, rfl, tyX5_ok, nmX5⟩
theorem lfX5_31 : aLkF RX5 31 5 8 := ⟨_, _, _, rfl, by decide, aC5, aI1 96 rfl rfl, rfl, tyX5_ok, nmX5⟩
theorem lfX5_34 : aLkF RX5 34 5 9 := ⟨_, _, _, rfl, by decide, aC5, aI1 99 rfl rfl, rfl, tyX5_ok, nmX5⟩
theorem lfX5_37 : aLkF RX5 37 5 10 := ⟨_, _, _, rfl, by decide, aC5, aI1 103 rfl rfl, rfl, tyX5_ok, nmX5⟩
theorem lfX5_40 : aLkF RX5 40 5 12 := ⟨_, _, _, rfl, by decide, aC5, aI1 109 rfl rfl, rfl, tyX5_ok, nmX5⟩
theorem lfX5_43 : aLkF RX5 43 5 14 := ⟨_, _, _, rfl, by decide, aC5, aI1 114 rfl rfl, rfl, tyX5_ok, nmX5⟩
theorem lfX5_46 : aLkF RX5 46 5 0 := ⟨_, _, _, rfl, by decide, aC5, aI1 79 rfl rfl, rfl, tyX5_ok, nmX5⟩
theorem lfX5_50 : aLkF RX5 50 5 5 := ⟨_, _, _, rfl, by decide, aC5, aI1 89 rfl rfl, rfl, tyX5_ok, nmX5⟩
theorem lmX5_53 : Cond.methodLink RX5 53 mX5_hasSet.1 ∈ aTb := aI3 93 rfl rfl
theorem lmX5_57 : Cond.methodLink RX5 57 mX5_hasNote.1 ∈ aTb := aI3 94 rfl rfl
theorem lmX5_60 : Cond.methodLink RX5 60 mX5_isIn.1 ∈ aTb := aI2 227 rfl rfl
theorem lmX5_64 : Cond.methodLink RX5 64 mX5_isAt.1 ∈ aTb := aI2 193 rfl rfl
theorem lmX5_67 : Cond.methodLink RX5 67 mX5_soundingAt.1 ∈ aTb := aI2 189 rfl rfl
theorem lmX5_71 : Cond.methodLink RX5 71 mX5_findSets.1 ∈ aTb := aI2 205 rfl rfl
theorem lmX5_74 : Cond.methodLink RX5 74 mX5_numberVariables.1 ∈ aTb := aI2 223 rfl rfl
theorem lfX5_77 : aLkF RX5 77 5 11 := ⟨_, _, _, rfl, by decide, aC5, aI1 107 rfl rfl, rfl, tyX5_ok, nmX5⟩
theorem lmX5_80 : Cond.methodLink RX5 80 mX5_tickAfter.1 ∈ aTb := aI2 209 rfl rfl
theorem lmX5_83 : Cond.methodLink RX5 83 mX5_appendSet.1 ∈ aTb := aI2 216 rfl rfl
theorem lmX5_87 : Cond.methodLink RX5 87 mJ9_min_7cf53.1 ∈ aTb := aI2 213 rfl rfl
theorem lmX5_93 : Cond.methodLink RX5 93 mJ9_max_7cf53.1 ∈ aTb := aI2 220 rfl rfl
theorem lmX5_96 : Cond.methodLink RX5 96 mX5_variableOf.1 ∈ aTb := aI2 231 rfl rfl
theorem lfX5_99 : aLkF RX5 99 5 13 := ⟨_, _, _, rfl, by decide, aC5, aI1 113 rfl rfl, rfl, tyX5_ok, nmX5⟩
theorem loX6_3 : Cond.methodLink RX6 3 objectInit ∈ aTb := aI2 113 rfl rfl
theorem lcX6_9 : Cond.classLink RX6 9 RX9 ∈ aTb := aI2 114 rfl rfl
theorem lnX6_9 : aLkN RX6 9 9 := ⟨_, _, _, rfl, aC9, lcX6_9, aCi9, aCz9, tyX9_ok, aTk9⟩
theorem lfX6_11 : aLkF RX6 11 6 1 := ⟨_, _, _, rfl, by decide, aC6, aI2 119 rfl rfl, rfl, tyX6_ok, nmX6⟩
theorem lcX6_17 : Cond.classLink RX6 17 "[[J" ∈ aTb := aI2 116 rfl rfl
theorem lfX6_19 : aLkF RX6 19 6 2 := ⟨_, _, _, rfl, by decide, aC6, aI2 121 rfl rfl, rfl, tyX6_ok, nmX6⟩
theorem lfX6_22 : aLkF RX6 22 6 3 := ⟨_, _, _, rfl, by decide, aC6, aI2 122 rfl rfl, rfl, tyX6_ok, nmX6⟩
theorem lfX6_25 : aLkF RX6 25 6 4 := ⟨_, _, _, rfl, by decide, aC6, aI2 123 rfl rfl, rfl, tyX6_ok, nmX6⟩
theorem lfX6_29 : aLkF RX6 29 6 5 := ⟨_, _, _, rfl, by decide, aC6, aI2 124 rfl rfl, rfl, tyX6_ok, nmX6⟩
theorem lfX6_32 : aLkF RX6 32 6 6 := ⟨_, _, _, rfl, by decide, aC6, aI2 125 rfl rfl, rfl, tyX6_ok, nmX6⟩
theorem lfX6_35 : aLkF RX6 35 6 0 := ⟨_, _, _, rfl, by decide, aC6, aI2 118 rfl rfl, rfl, tyX6_ok, nmX6⟩
theorem lmX6_39 : Cond.methodLinkNest RX6 39 mX9_init.1 "JustMoves" ∈ aNs := List.mem_of_getElem? (i := 8) rfl
theorem lfX6_40 : aLkF RX6 40 6 7 := ⟨_, _, _, rfl, by decide, aC6, aI2 126 rfl rfl, rfl, tyX6_ok, nmX6⟩
theorem lgX6_44 : Cond.fieldLinkNest RX6 44 "JustMoves" "MODULI" "[I" "JustMoves" ∈ aNs := List.mem_of_getElem? (i := 10) rfl
theorem lmX6_48 : Cond.methodLink RX6 48 mX6_solveBy.1 ∈ aTb := aI4 39 rfl rfl
theorem lmX6_52 : Cond.methodLink RX6 52 mX6_useModulus.1 ∈ aTb := aI4 70 rfl rfl
theorem lfX6_56 : aLkF RX6 56 7 4 := ⟨_, _, _, rfl, by decide, aC7, aI2 76 rfl rfl, rfl, tyX7_ok, nmX7⟩
theorem lmX6_61 : Cond.methodLink RX6 61 mX6_putTogether.1 ∈ aTb := aI4 74 rfl rfl
theorem lmX6_65 : Cond.methodLink RX6 65 mX6_inverse.1 ∈ aTb := aI4 62 rfl rfl
theorem lmX6_69 : Cond.methodLink RX6 69 mX6_load.1 ∈ aTb := aI4 43 rfl rfl
theorem lmX6_72 : Cond.methodLink RX6 72 mX6_eliminate.1 ∈ aTb := aI4 50 rfl rfl
theorem lmX6_76 : Cond.methodLink RX6 76 mJ9_floorMod_f86c9.1 ∈ aTb := aI4 47 rfl rfl
theorem lfX6_81 : aLkF RX6 81 7 6 := ⟨_, _, _, rfl, by decide, aC7, aI2 81 rfl rfl, rfl, tyX7_ok, nmX7⟩
theorem lfX6_85 : aLkF RX6 85 7 8 := ⟨_, _, _, rfl, by decide, aC7, aI2 85 rfl rfl, rfl, tyX7_ok, nmX7⟩
theorem lfX6_88 : aLkF RX6 88 7 7 := ⟨_, _, _, rfl, by decide, aC7, aI2 83 rfl rfl, rfl, tyX7_ok, nmX7⟩
theorem lmX6_91 : Cond.methodLink RX6 91 mX6_findRow.1 ∈ aTb := aI4 54 rfl rfl
theorem lmX6_95 : Cond.methodLink RX6 95 mX6_swapRows.1 ∈ aTb := aI4 58 rfl rfl
theorem lmX6_99 : Cond.methodLink RX6 99 mX6_subtractRow.1 ∈ aTb := aI4 66 rfl rfl
theorem lkX6_103 : Cond.constantLong RX6 103 (2) ∈ aTb := aI4 65 rfl rfl
theorem lmX6_105 : Cond.methodLink RX6 105 mX6_findDigits.1 ∈ aTb := aI4 78 rfl rfl
theorem lmX6_108 : Cond.methodLink RX6 108 mX9_become.1 ∈ aTb := aI4 82 rfl rfl
theorem lmX6_111 : Cond.methodLink RX6 111 mX9_timesPlus.1 ∈ aTb := aI4 89 rfl rfl
theorem lfX6_114 : aLkF RX6 114 9 1 := ⟨_, _, _, rfl, by decide, aC9, aI1 166 rfl rfl, rfl, tyX9_ok, nmX9⟩
theorem loX7_3 : Cond.methodLink RX7 3 objectInit ∈ aTb := aI2 69 rfl rfl
theorem lcX7_9 : Cond.classLink RX7 9 "[[J" ∈ aTb := aI2 70 rfl rfl
theorem lfX7_11 : aLkF RX7 11 7 7 := ⟨_, _, _, rfl, by decide, aC7, aI2 82 rfl rfl, rfl, tyX7_ok, nmX7⟩
theorem lfX7_16 : aLkF RX7 16 7 8 := ⟨_, _, _, rfl, by decide, aC7, aI2 84 rfl rfl, rfl, tyX7_ok, nmX7⟩
theorem lfX7_20 : aLkF RX7 20 7 9 := ⟨_, _, _, rfl, by decide, aC7, aI2 86 rfl rfl, rfl, tyX7_ok, nmX7⟩
theorem lfX7_24 : aLkF RX7 24 7 0 := ⟨_, _, _, rfl, by decide, aC7, aI2 72 rfl rfl, rfl, tyX7_ok, nmX7⟩
theorem lfX7_28 : aLkF RX7 28 7 1 := ⟨_, _, _, rfl, by decide, aC7, aI2 73 rfl rfl, rfl, tyX7_ok, nmX7⟩
theorem lfX7_32 : aLkF RX7 32 7 2 := ⟨_, _, _, rfl, by decide, aC7, aI2 74 rfl rfl, rfl, tyX7_ok, nmX7⟩
theorem lfX7_36 : aLkF RX7 36 7 3 := ⟨_, _, _, rfl, by decide, aC7, aI2 75 rfl rfl, rfl, tyX7_ok, nmX7⟩
theorem lmX7_39 : Cond.methodLink RX7 39 mX7_reset.1 ∈ aTb := aI3 224 rfl rfl
theorem lfX7_42 : aLkF RX7 42 5 5 := ⟨_, _, _, rfl, by decide, aC5, aI1 88 rfl rfl, rfl, tyX5_ok, nmX5⟩
theorem lmX7_48 : Cond.methodLink RX7 48 mX7_addChord.1 ∈ aTb := aI3 232 rfl rfl
theorem lmX7_52 : Cond.methodLink RX7 52 mX7_addMoves.1 ∈ aTb := aI4 7 rfl rfl
theorem lmX7_55 : Cond.methodLink RX7 55 mX7_addEquals.1 ∈ aTb := aI4 12 rfl rfl
theorem lmX7_58 : Cond.methodLink RX7 58 mX7_fixLoose.1 ∈ aTb := aI4 16 rfl rfl
theorem lfX7_61 : aLkF RX7 61 5 11 := ⟨_, _, _, rfl, by decide, aC5, aI1 106 rfl rfl, rfl, tyX5_ok, nmX5⟩
theorem lmX7_64 : Cond.methodLink RX7 64 mJ9_min_7cf53.1 ∈ aTb := aI3 228 rfl rfl
theorem lfX7_70 : aLkF RX7 70 7 4 := ⟨_, _, _, rfl, by decide, aC7, aI2 77 rfl rfl, rfl, tyX7_ok, nmX7⟩
theorem lfX7_73 : aLkF RX7 73 7 5 := ⟨_, _, _, rfl, by decide, aC7, aI2 78 rfl rfl, rfl, tyX7_ok, nmX7⟩
theorem lfX7_76 : aLkF RX7 76 7 6 := ⟨_, _, _, rfl, by decide, aC7, aI2 80 rfl rfl, rfl, tyX7_ok, nmX7⟩
theorem lmX7_80 : Cond.methodLink RX7 80 mJ7_fill_d0a16.1 ∈ aTb := aI3 229 rfl rfl
theorem lfX7_86 : aLkF RX7 86 1 3 := ⟨_, _, _, rfl, by decide, aC1, aI1 236 rfl rfl, rfl, tyX1_ok, nmX1⟩
theorem lmX7_91 : Cond.methodLink RX7 91 mX4_open.1 ∈ aTb := aI3 236 rfl rfl
theorem lfX7_97 : aLkF RX7 97 5 9 := ⟨_, _, _, rfl, by decide, aC5, aI1 101 rfl rfl, rfl, tyX5_ok, nmX5⟩
theorem lfX7_100 : aLkF RX7 100 5 10 := ⟨_, _, _, rfl, by decide, aC5, aI1 105 rfl rfl, rfl, tyX5_ok, nmX5⟩
theorem lmX7_103 : Cond.methodLink RX7 103 mX4_deviationOf.1 ∈ aTb := aI3 237 rfl rfl
theorem lmX7_106 : Cond.methodLink RX7 106 mX5_variableOf.1 ∈ aTb := aI4 2 rfl rfl
theorem lmX7_109 : Cond.methodLink RX7 109 mX7_addPair.1 ∈ aTb := aI4 3 rfl rfl
theorem lmX7_113 : Cond.methodLink RX7 113 mX5_findCommon.1 ∈ aTb := aI4 11 rfl rfl
theorem lfX7_116 : aLkF RX7 116 5 13 := ⟨_, _, _, rfl, by decide, aC5, aI1 111 rfl rfl, rfl, tyX5_ok, nmX5⟩
theorem lfX7_119 : aLkF RX7 119 5 14 := ⟨_, _, _, rfl, by decide, aC5, aI1 116 rfl rfl, rfl, tyX5_ok, nmX5⟩
theorem lfX7_122 : aLkF RX7 122 5 4 := ⟨_, _, _, rfl, by decide, aC5, aI1 85 rfl rfl, rfl, tyX5_ok, nmX5⟩
theorem lmX7_126 : Cond.methodLink RX7 126 mX7_findLasts.1 ∈ aTb := aI4 20 rfl rfl
theorem lmX7_129 : Cond.methodLink RX7 129 mX7_fix.1 ∈ aTb := aI4 29 rfl rfl
theorem lmX7_132 : Cond.methodLink RX7 132 mX7_pullLast.1 ∈ aTb := aI4 24 rfl rfl
theorem lmX7_136 : Cond.methodLink RX7 136 mJ9_max_7cf53.1 ∈ aTb := aI4 28 rfl rfl
theorem loX8_3 : Cond.methodLink RX8 3 objectInit ∈ aTb := aI1 192 rfl rfl
theorem lfX8_9 : aLkF RX8 9 8 0 := ⟨_, _, _, rfl, by decide, aC8, aI1 193 rfl rfl, rfl, tyX8_ok, nmX8⟩
theorem lmX8_15 : Cond.methodLink RX8 15 mX2_bringToLowestTerms.1 ∈ aTb := aI4 150 rfl rfl
theorem lfX8_20 : aLkF RX8 20 8 1 := ⟨_, _, _, rfl, by decide, aC8, aI1 195 rfl rfl, rfl, tyX8_ok, nmX8⟩
theorem lfX8_24 : aLkF RX8 24 2 0 := ⟨_, _, _, rfl, by decide, aC2, aI1 173 rfl rfl, rfl, tyX2_ok, nmX2⟩
theorem lfX8_28 : aLkF RX8 28 9 1 := ⟨_, _, _, rfl, by decide, aC9, aI1 163 rfl rfl, rfl, tyX9_ok, nmX9⟩
theorem lmX8_34 : Cond.methodLink RX8 34 mX8_append.1 ∈ aTb := aI4 192 rfl rfl
theorem lmX8_38 : Cond.methodLink RX8 38 mX8_appendSize.1 ∈ aTb := aI4 196 rfl rfl
theorem lfX8_42 : aLkF RX8 42 2 1 := ⟨_, _, _, rfl, by decide, aC2, aI1 175 rfl rfl, rfl, tyX2_ok, nmX2⟩
theorem lmX8_45 : Cond.methodLink RX8 45 mX9_hasSize.1 ∈ aTb := aI4 205 rfl rfl
theorem lmX8_49 : Cond.methodLink RX8 49 mX9_dropDigit.1 ∈ aTb := aI4 200 rfl rfl
theorem loX9_3 : Cond.methodLink RX9 3 objectInit ∈ aTb := aI1 161 rfl rfl
theorem lfX9_9 : aLkF RX9 9 9 0 := ⟨_, _, _, rfl, by decide, aC9, aI1 162 rfl rfl, rfl, tyX9_ok, nmX9⟩
theorem lmX9_15 : Cond.methodLink RX9 15 mJ7_fill_53178.1 ∈ aTb := aI4 86 rfl rfl
theorem lfX9_21 : aLkF RX9 21 9 1 := ⟨_, _, _, rfl, by decide, aC9, aI1 164 rfl rfl, rfl, tyX9_ok, nmX9⟩
theorem lyX9_25 : Cond.methodLink RX9 25 arraycopyName ∈ aTb := aI4 119 rfl rfl
theorem lkX9_31 : Cond.constantLong RX9 31 (1073741823) ∈ aTb := aI4 93 rfl rfl
theorem lmX9_33 : Cond.methodLink RX9 33 mX9_combine.1 ∈ aTb := aI4 133 rfl rfl
theorem lmX9_37 : Cond.methodLink RX9 37 mX9_compareSize.1 ∈ aTb := aI4 138 rfl rfl
theorem lmX9_41 : Cond.methodLink RX9 41 mX9_hasSize.1 ∈ aTb := aI4 142 rfl rfl
theorem lkX9_45 : Cond.constant RX9 45 (1073741823) ∈ aTb := aI4 137 rfl rfl
theorem lmX9_46 : Cond.methodLink RX9 46 mJ6_bitCount_0f7a4.1 ∈ aTb := aI4 160 rfl rfl
theorem lmX9_52 : Cond.methodLink RX9 52 mX9_limbAt.1 ∈ aTb := aI4 171 rfl rfl
theorem lkX9_55 : Cond.constantLong RX9 55 (10) ∈ aTb := aI4 204 rfl rfl
theorem lmX9_57 : Cond.methodLink RX9 57 mX9_inverseOfLowest.1 ∈ aTb := aI4 188 rfl rfl
theorem lcL_7 : Cond.classLink RL 7 RX10 ∈ aTb := aI1 17 rfl rfl
theorem lnL_7 : aLkN RL 7 10 := ⟨_, _, _, rfl, aC10, lcL_7, aCi10, aCz10, tyX10_ok, aTk10⟩
theorem lmL_9 : Cond.methodLink RL 9 mX10_init.1 ∈ aTb := aI1 19 rfl rfl
theorem lcL_10 : Cond.classLink RL 10 RX11 ∈ aTb := aI5 11 rfl rfl
theorem lnL_10 : aLkN RL 10 11 := ⟨_, _, _, rfl, aC11, lcL_10, aCi11, aCz11, tyX11_ok, aTk11⟩
theorem lmL_12 : Cond.methodLink RL 12 mX11_init.1 ∈ aTb := aI5 13 rfl rfl
theorem lmL_13 : Cond.methodLink RL 13 mX10_note.1 ∈ aTb := aI2 181 rfl rfl
theorem lmL_17 : Cond.methodLink RL 17 mX11_note.1 ∈ aTb := aI5 191 rfl rfl
theorem lmL_18 : Cond.methodLink RL 18 mX10_clear.1 ∈ aTb := aI2 235 rfl rfl
theorem lmL_22 : Cond.methodLink RL 22 mX11_clear.1 ∈ aTb := aI5 199 rfl rfl
theorem lmL_23 : Cond.methodLink RL 23 mX10_bind.1 ∈ aTb := aI3 3 rfl rfl
theorem lmL_27 : Cond.methodLink RL 27 mX11_bind.1 ∈ aTb := aI5 203 rfl rfl
theorem lmL_28 : Cond.methodLink RL 28 mX10_ratio.1 ∈ aTb := aI3 15 rfl rfl
theorem lmL_31 : Cond.methodLink RL 31 mX11_ratio.1 ∈ aTb := aI5 211 rfl rfl
theorem lmL_32 : Cond.methodLink RL 32 mX10_empty.1 ∈ aTb := aI3 33 rfl rfl
theorem lmL_36 : Cond.methodLink RL 36 mX11_empty.1 ∈ aTb := aI5 215 rfl rfl
theorem lmL_37 : Cond.methodLink RL 37 mX10_weight.1 ∈ aTb := aI3 41 rfl rfl
theorem lmL_41 : Cond.methodLink RL 41 mX11_weight.1 ∈ aTb := aI5 219 rfl rfl
theorem lmL_42 : Cond.methodLink RL 42 mX10_sets.1 ∈ aTb := aI3 47 rfl rfl
theorem lmL_45 : Cond.methodLink RL 45 mX11_sets.1 ∈ aTb := aI5 224 rfl rfl
theorem lmL_46 : Cond.methodLink RL 46 mX10_set.1 ∈ aTb := aI3 51 rfl rfl
theorem lmL_49 : Cond.methodLink RL 49 mX11_set.1 ∈ aTb := aI5 228 rfl rfl
theorem lmL_50 : Cond.methodLink RL 50 mX10_sounds.1 ∈ aTb := aI3 74 rfl rfl
theorem lmL_53 : Cond.methodLink RL 53 mX11_sounds.1 ∈ aTb := aI5 236 rfl rfl
theorem lmL_54 : Cond.methodLink RL 54 mX10_reading.1 ∈ aTb := aI3 79 rfl rfl
theorem lmL_58 : Cond.methodLink RL 58 mX11_reading.1 ∈ aTb := aI6 0 rfl rfl
theorem lmL_59 : Cond.methodLink RL 59 mX10_harsh.1 ∈ aTb := aI3 108 rfl rfl
theorem lmL_62 : Cond.methodLink RL 62 mX11_harsh.1 ∈ aTb := aI6 24 rfl rfl
theorem lmL_63 : Cond.methodLink RL 63 mX10_choose.1 ∈ aTb := aI3 123 rfl rfl
theorem lmL_67 : Cond.methodLink RL 67 mX11_choose.1 ∈ aTb := aI6 32 rfl rfl
theorem lmL_68 : Cond.methodLink RL 68 mX10_chosen.1 ∈ aTb := aI3 212 rfl rfl
theorem lmL_71 : Cond.methodLink RL 71 mX11_chosen.1 ∈ aTb := aI6 42 rfl rfl
theorem lmL_72 : Cond.methodLink RL 72 mX10_solve.1 ∈ aTb := aI3 216 rfl rfl
theorem lmL_75 : Cond.methodLink RL 75 mX11_solve.1 ∈ aTb := aI6 46 rfl rfl
theorem lmL_76 : Cond.methodLink RL 76 mX10_variable.1 ∈ aTb := aI4 94 rfl rfl
theorem lmL_79 : Cond.methodLink RL 79 mX11_variable.1 ∈ aTb := aI6 81 rfl rfl
theorem lmL_80 : Cond.methodLink RL 80 mX10_loose.1 ∈ aTb := aI4 99 rfl rfl
theorem lmL_83 : Cond.methodLink RL 83 mX11_loose.1 ∈ aTb := aI6 85 rfl rfl
theorem lmL_84 : Cond.methodLink RL 84 mX10_place.1 ∈ aTb := aI4 103 rfl rfl
theorem lmL_87 : Cond.methodLink RL 87 mX11_place.1 ∈ aTb := aI6 89 rfl rfl
theorem lmL_88 : Cond.methodLink RL 88 mX10_move.1 ∈ aTb := aI4 206 rfl rfl
theorem lmL_91 : Cond.methodLink RL 91 mX11_move.1 ∈ aTb := aI6 161 rfl rfl
theorem lmL_92 : Cond.methodLink RL 92 mX10_energy.1 ∈ aTb := aI4 210 rfl rfl
theorem lmL_95 : Cond.methodLink RL 95 mX11_energy.1 ∈ aTb := aI6 166 rfl rfl
theorem lmL_96 : Cond.methodLink RL 96 mX10_near.1 ∈ aTb := aI4 214 rfl rfl
theorem lmL_99 : Cond.methodLink RL 99 mX11_near.1 ∈ aTb := aI6 170 rfl rfl
theorem lmL_100 : Cond.methodLink RL 100 mX10_text.1 ∈ aTb := aI4 227 rfl rfl
theorem lmL_103 : Cond.methodLink RL 103 mX11_text.1 ∈ aTb := aI6 174 rfl rfl
theorem lmL_104 : Cond.methodLink RL 104 mX10_pure.1 ∈ aTb := aI4 231 rfl rfl
theorem lmL_107 : Cond.methodLink RL 107 mX11_pure.1 ∈ aTb := aI6 178 rfl rfl
theorem lmL_108 : Cond.methodLink RL 108 mX10_pump.1 ∈ aTb := aI4 235 rfl rfl
theorem lmL_111 : Cond.methodLink RL 111 mX11_pump.1 ∈ aTb := aI6 186 rfl rfl
theorem loX11_1 : Cond.methodLink RX11 1 objectInit ∈ aTb := aI5 16 rfl rfl
theorem lfX11_7 : aLkF RX11 7 11 1 := ⟨_, _, _, rfl, by decide, aC11, aI5 50 rfl rfl, rfl, tyX11_ok, nmX11⟩
theorem lfX11_13 : aLkF RX11 13 11 2 := ⟨_, _, _, rfl, by decide, aC11, aI5 51 rfl rfl, rfl, tyX11_ok, nmX11⟩
theorem lfX11_16 : aLkF RX11 16 11 3 := ⟨_, _, _, rfl, by decide, aC11, aI5 52 rfl rfl, rfl, tyX11_ok, nmX11⟩
theorem lfX11_19 : aLkF RX11 19 11 4 := ⟨_, _, _, rfl, by decide, aC11, aI5 53 rfl rfl, rfl, tyX11_ok, nmX11⟩
theorem lfX11_23 : aLkF RX11 23 11 5 := ⟨_, _, _, rfl, by decide, aC11, aI5 54 rfl rfl, rfl, tyX11_ok, nmX11⟩
theorem lfX11_26 : aLkF RX11 26 11 6 := ⟨_, _, _, rfl, by decide, aC11, aI5 55 rfl rfl, rfl, tyX11_ok, nmX11⟩
theorem lfX11_29 : aLkF RX11 29 11 7 := ⟨_, _, _, rfl, by decide, aC11, aI5 56 rfl rfl, rfl, tyX11_ok, nmX11⟩
theorem lfX11_32 : aLkF RX11 32 11 8 := ⟨_, _, _, rfl, by decide, aC11, aI5 57 rfl rfl, rfl, tyX11_ok, nmX11⟩
theorem lfX11_35 : aLkF RX11 35 11 9 := ⟨_, _, _, rfl, by decide, aC11, aI5 58 rfl rfl, rfl, tyX11_ok, nmX11⟩
theorem lkX11_38 : Cond.constant RX11 38 (120000) ∈ aTb := aI5 17 rfl rfl
theorem lkX11_39 : Cond.constant RX11 39 (190196) ∈ aTb := aI5 18 rfl rfl
theorem lkX11_40 : Cond.constant RX11 40 (278631) ∈ aTb := aI5 19 rfl rfl
theorem lkX11_41 : Cond.constant RX11 41 (336883) ∈ aTb := aI5 20 rfl rfl
theorem lkX11_42 : Cond.constant RX11 42 (415132) ∈ aTb := aI5 21 rfl rfl
theorem lkX11_43 : Cond.constant RX11 43 (444053) ∈ aTb := aI5 22 rfl rfl
theorem lfX11_44 : aLkF RX11 44 11 10 := ⟨_, _, _, rfl, by decide, aC11, aI5 59 rfl rfl, rfl, tyX11_ok, nmX11⟩
theorem lkX11_47 : Cond.constant RX11 47 (100000) ∈ aTb := aI5 23 rfl rfl
theorem lfX11_48 : aLkF RX11 48 11 11 := ⟨_, _, _, rfl, by decide, aC11, aI5 60 rfl rfl, rfl, tyX11_ok, nmX11⟩
theorem lfX11_51 : aLkF RX11 51 11 15 := ⟨_, _, _, rfl, by decide, aC11, aI5 64 rfl rfl, rfl, tyX11_ok, nmX11⟩
theorem lfX11_54 : aLkF RX11 54 11 16 := ⟨_, _, _, rfl, by decide, aC11, aI5 65 rfl rfl, rfl, tyX11_ok, nmX11⟩
theorem lfX11_57 : aLkF RX11 57 11 17 := ⟨_, _, _, rfl, by decide, aC11, aI5 66 rfl rfl, rfl, tyX11_ok, nmX11⟩
theorem lfX11_60 : aLkF RX11 60 11 18 := ⟨_, _, _, rfl, by decide, aC11, aI5 67 rfl rfl, rfl, tyX11_ok, nmX11⟩
theorem lfX11_63 : aLkF RX11 63 11 19 := ⟨_, _, _, rfl, by decide, aC11, aI5 68 rfl rfl, rfl, tyX11_ok, nmX11⟩
theorem lfX11_66 : aLkF RX11 66 11 20 := ⟨_, _, _, rfl, by decide, aC11, aI5 69 rfl rfl, rfl, tyX11_ok, nmX11⟩
theorem lfX11_69 : aLkF RX11 69 11 22 := ⟨_, _, _, rfl, by decide, aC11, aI5 71 rfl rfl, rfl, tyX11_ok, nmX11⟩
theorem lfX11_72 : aLkF RX11 72 11 23 := ⟨_, _, _, rfl, by decide, aC11, aI5 72 rfl rfl, rfl, tyX11_ok, nmX11⟩
theorem lfX11_75 : aLkF RX11 75 11 24 := ⟨_, _, _, rfl, by decide, aC11, aI5 73 rfl rfl, rfl, tyX11_ok, nmX11⟩
theorem lfX11_78 : aLkF RX11 78 11 25 := ⟨_, _, _, rfl, by decide, aC11, aI5 74 rfl rfl, rfl, tyX11_ok, nmX11⟩
theorem lkX11_82 : Cond.constant RX11 82 (32768) ∈ aTb := aI5 24 rfl rfl
theorem lfX11_83 : aLkF RX11 83 11 26 := ⟨_, _, _, rfl, by decide, aC11, aI5 75 rfl rfl, rfl, tyX11_ok, nmX11⟩
theorem lfX11_86 : aLkF RX11 86 11 27 := ⟨_, _, _, rfl, by decide, aC11, aI5 76 rfl rfl, rfl, tyX11_ok, nmX11⟩
theorem lfX11_89 : aLkF RX11 89 11 28 := ⟨_, _, _, rfl, by decide, aC11, aI5 77 rfl rfl, rfl, tyX11_ok, nmX11⟩
theorem lfX11_92 : aLkF RX11 92 11 29 := ⟨_, _, _, rfl, by decide, aC11, aI5 78 rfl rfl, rfl, tyX11_ok, nmX11⟩
theorem lfX11_95 : aLkF RX11 95 11 30 := ⟨_, _, _, rfl, by decide, aC11, aI5 79 rfl rfl, rfl, tyX11_ok, nmX11⟩
theorem lfX11_98 : aLkF RX11 98 11 31 := ⟨_, _, _, rfl, by decide, aC11, aI5 80 rfl rfl, rfl, tyX11_ok, nmX11⟩
theorem lfX11_101 : aLkF RX11 101 11 35 := ⟨_, _, _, rfl, by decide, aC11, aI5 84 rfl rfl, rfl, tyX11_ok, nmX11⟩
theorem lfX11_104 : aLkF RX11 104 11 37 := ⟨_, _, _, rfl, by decide, aC11, aI5 86 rfl rfl, rfl, tyX11_ok, nmX11⟩
theorem lfX11_107 : aLkF RX11 107 11 38 := ⟨_, _, _, rfl, by decide, aC11, aI5 87 rfl rfl, rfl, tyX11_ok, nmX11⟩
theorem lfX11_110 : aLkF RX11 110 11 39 := ⟨_, _, _, rfl, by decide, aC11, aI5 88 rfl rfl, rfl, tyX11_ok, nmX11⟩
theorem lfX11_113 : aLkF RX11 113 11 40 := ⟨_, _, _, rfl, by decide, aC11, aI5 89 rfl rfl, rfl, tyX11_ok, nmX11⟩
theorem lfX11_116 : aLkF RX11 116 11 41 := ⟨_, _, _, rfl, by decide, aC11, aI5 90 rfl rfl, rfl, tyX11_ok, nmX11⟩
theorem lfX11_119 : aLkF RX11 119 11 43 := ⟨_, _, _, rfl, by decide, aC11, aI5 92 rfl rfl, rfl, tyX11_ok, nmX11⟩
theorem lfX11_123 : aLkF RX11 123 11 44 := ⟨_, _, _, rfl, by decide, aC11, aI5 93 rfl rfl, rfl, tyX11_ok, nmX11⟩
theorem lfX11_126 : aLkF RX11 126 11 45 := ⟨_, _, _, rfl, by decide, aC11, aI5 94 rfl rfl, rfl, tyX11_ok, nmX11⟩
theorem lfX11_129 : aLkF RX11 129 11 46 := ⟨_, _, _, rfl, by decide, aC11, aI5 95 rfl rfl, rfl, tyX11_ok, nmX11⟩
theorem lmX11_132 : Cond.methodLink RX11 132 mX11_put.1 ∈ aTb := aI5 25 rfl rfl
theorem lmX11_136 : Cond.methodLink RX11 136 mX11_divide.1 ∈ aTb := aI5 33 rfl rfl
theorem lmX11_139 : Cond.methodLink RX11 139 mX11_powerOf.1 ∈ aTb := aI5 29 rfl rfl
theorem lfX11_143 : aLkF RX11 143 11 12 := ⟨_, _, _, rfl, by decide, aC11, aI5 61 rfl rfl, rfl, tyX11_ok, nmX11⟩
theorem lfX11_147 : aLkF RX11 147 11 13 := ⟨_, _, _, rfl, by decide, aC11, aI5 62 rfl rfl, rfl, tyX11_ok, nmX11⟩
theorem lfX11_150 : aLkF RX11 150 11 0 := ⟨_, _, _, rfl, by decide, aC11, aI5 49 rfl rfl, rfl, tyX11_ok, nmX11⟩
theorem lfX11_154 : aLkF RX11 154 11 14 := ⟨_, _, _, rfl, by decide, aC11, aI5 63 rfl rfl, rfl, tyX11_ok, nmX11⟩
theorem lmX11_157 : Cond.methodLink RX11 157 mX11_count.1 ∈ aTb := aI5 37 rfl rfl
theorem lfX11_160 : aLkF RX11 160 11 21 := ⟨_, _, _, rfl, by decide, aC11, aI5 70 rfl rfl, rfl, tyX11_ok, nmX11⟩
theorem lmX11_163 : Cond.methodLink RX11 163 mX11_sounds0.1 ∈ aTb := aI5 41 rfl rfl
theorem lmX11_167 : Cond.methodLink RX11 167 mX11_typeOf.1 ∈ aTb := aI5 45 rfl rfl
theorem lmX11_170 : Cond.methodLink RX11 170 mX11_ratioOf.1 ∈ aTb := aI6 8 rfl rfl
theorem lmX11_174 : Cond.methodLink RX11 174 mX11_octavesOf.1 ∈ aTb := aI6 16 rfl rfl
theorem lmX11_177 : Cond.methodLink RX11 177 mX11_power.1 ∈ aTb := aI6 20 rfl rfl
theorem lmX11_180 : Cond.methodLink RX11 180 mX11_isIn.1 ∈ aTb := aI5 195 rfl rfl
theorem lmX11_184 : Cond.methodLink RX11 184 mX11_isSet.1 ∈ aTb := aI5 232 rfl rfl
theorem lmX11_188 : Cond.methodLink RX11 188 mX11_isNote.1 ∈ aTb := aI5 207 rfl rfl
theorem lkX11_191 : Cond.constant RX11 191 (1000000) ∈ aTb := aI5 223 rfl rfl
theorem lmX11_192 : Cond.methodLink RX11 192 mX11_isSounding.1 ∈ aTb := aI6 4 rfl rfl
theorem lmX11_195 : Cond.methodLink RX11 195 mX11_targetOf.1 ∈ aTb := aI6 12 rfl rfl
theorem lmX11_198 : Cond.methodLink RX11 198 mX11_harshOf.1 ∈ aTb := aI6 28 rfl rfl
theorem lkX11_201 : Cond.constantLong RX11 201 (-2) ∈ aTb := aI6 36 rfl rfl
theorem lkX11_203 : Cond.constantLong RX11 203 (-3) ∈ aTb := aI6 37 rfl rfl
theorem lmX11_205 : Cond.methodLink RX11 205 mX11_strain.1 ∈ aTb := aI6 38 rfl rfl
theorem lfX11_209 : aLkF RX11 209 11 33 := ⟨_, _, _, rfl, by decide, aC11, aI5 82 rfl rfl, rfl, tyX11_ok, nmX11⟩
theorem lmX11_213 : Cond.methodLink RX11 213 mX11_addTerm.1 ∈ aTb := aI6 54 rfl rfl
theorem lfX11_217 : aLkF RX11 217 11 34 := ⟨_, _, _, rfl, by decide, aC11, aI5 83 rfl rfl, rfl, tyX11_ok, nmX11⟩
theorem lkX11_220 : Cond.constantLong RX11 220 (2147483647) ∈ aTb := aI6 62 rfl rfl
theorem lkX11_222 : Cond.constantLong RX11 222 (2) ∈ aTb := aI6 63 rfl rfl
theorem lmX11_224 : Cond.methodLink RX11 224 mX11_isPrime.1 ∈ aTb := aI6 64 rfl rfl
theorem lkX11_228 : Cond.constantLong RX11 228 (3) ∈ aTb := aI6 68 rfl rfl
theorem lmX11_230 : Cond.methodLink RX11 230 mX11_mod.1 ∈ aTb := aI6 73 rfl rfl
theorem lmX11_234 : Cond.methodLink RX11 234 mX11_inverse.1 ∈ aTb := aI6 77 rfl rfl
theorem lfX11_237 : aLkF RX11 237 11 36 := ⟨_, _, _, rfl, by decide, aC11, aI5 85 rfl rfl, rfl, tyX11_ok, nmX11⟩
theorem lmX11_240 : Cond.methodLink RX11 240 mX11_build.1 ∈ aTb := aI6 50 rfl rfl
theorem lfX11_243 : aLkF RX11 243 11 32 := ⟨_, _, _, rfl, by decide, aC11, aI5 81 rfl rfl, rfl, tyX11_ok, nmX11⟩
theorem lmX11_246 : Cond.methodLink RX11 246 mX11_nextPrime.1 ∈ aTb := aI6 58 rfl rfl
theorem lmX11_250 : Cond.methodLink RX11 250 mX11_byPrime.1 ∈ aTb := aI6 69 rfl rfl
theorem lkX11_253 : Cond.constantLong RX11 253 (1000000000) ∈ aTb := aI6 109 rfl rfl
theorem lmX11_255 : Cond.methodLink RX11 255 mX11_isZero.1 ∈ aTb := aI6 134 rfl rfl
theorem lmX11_258 : Cond.methodLink RX11 258 mX11_isOdd.1 ∈ aTb := aI6 138 rfl rfl
theorem lmX11_261 : Cond.methodLink RX11 261 mX11_halve.1 ∈ aTb := aI6 142 rfl rfl
theorem lmX11_265 : Cond.methodLink RX11 265 mX11_compare.1 ∈ aTb := aI6 118 rfl rfl
theorem lmX11_268 : Cond.methodLink RX11 268 mX11_less.1 ∈ aTb := aI6 122 rfl rfl
theorem lmX11_272 : Cond.methodLink RX11 272 mX11_copy.1 ∈ aTb := aI6 114 rfl rfl
theorem lmX11_275 : Cond.methodLink RX11 275 mX11_step.1 ∈ aTb := aI6 110 rfl rfl
theorem lmX11_279 : Cond.methodLink RX11 279 mX11_zero.1 ∈ aTb := aI6 101 rfl rfl
theorem lmX11_282 : Cond.methodLink RX11 282 mX11_moved.1 ∈ aTb := aI6 150 rfl rfl
theorem lmX11_286 : Cond.methodLink RX11 286 mX11_add.1 ∈ aTb := aI6 105 rfl rfl
theorem lkX11_290 : Cond.constantLong RX11 290 (100000000) ∈ aTb := aI6 158 rfl rfl
theorem lkX11_292 : Cond.constantLong RX11 292 (10) ∈ aTb := aI6 159 rfl rfl
theorem lfX11_294 : aLkF RX11 294 11 42 := ⟨_, _, _, rfl, by decide, aC11, aI5 91 rfl rfl, rfl, tyX11_ok, nmX11⟩
theorem lkX11_297 : Cond.constantLong RX11 297 (48) ∈ aTb := aI6 160 rfl rfl
theorem lmX11_299 : Cond.methodLink RX11 299 mX11_divisor.1 ∈ aTb := aI6 130 rfl rfl
theorem lmX11_302 : Cond.methodLink RX11 302 mX11_divide_.1 ∈ aTb := aI6 146 rfl rfl
theorem lmX11_304 : Cond.methodLink RX11 304 mX11_write.1 ∈ aTb := aI6 154 rfl rfl
theorem lmX11_307 : Cond.methodLink RX11 307 mX11_join.1 ∈ aTb := aI6 97 rfl rfl
theorem lmX11_310 : Cond.methodLink RX11 310 mX11_fraction.1 ∈ aTb := aI6 93 rfl rfl
theorem lmX11_313 : Cond.methodLink RX11 313 mX11_tell.1 ∈ aTb := aI6 126 rfl rfl
theorem lkX11_317 : Cond.constantLong RX11 317 (10000) ∈ aTb := aI6 165 rfl rfl
theorem lmX11_319 : Cond.methodLink RX11 319 mX11_shifts.1 ∈ aTb := aI6 182 rfl rfl
theorem lkJ6_265 : Cond.constant RJ6 265 (1431655765) ∈ aTb := aI4 163 rfl rfl
theorem lkJ6_266 : Cond.constant RJ6 266 (858993459) ∈ aTb := aI4 164 rfl rfl
theorem lkJ6_267 : Cond.constant RJ6 267 (252645135) ∈ aTb := aI4 165 rfl rfl
theorem wO2 : Cond.instanceMethod objectInit ∈ aTb := aI1 23 rfl rfl
theorem wO3 : Cond.code objectInit ⟨#[0xb1]⟩ 1 none ∈ aTb := aI1 24 rfl rfl
theorem wY1 : Cond.native arraycopyName ∈ aTb := aI1 207 rfl rfl
theorem wY2 : Cond.static arraycopyName ∈ aTb := aI1 206 rfl rfl
theorem wY3 : Cond.initialized "java/lang/System" ∈ aTb := aI1 7 rfl rfl
theorem wA_int : Cond.arrayClass .int ∈ aTb := aI1 72 rfl rfl
theorem wA_boolean : Cond.arrayClass .boolean ∈ aTb := aI1 149 rfl rfl
theorem wA_byte : Cond.arrayClass .byte ∈ aTb := aI1 202 rfl rfl
theorem wA_long : Cond.arrayClass .long ∈ aTb := aI2 26 rfl rfl
end
section
def R_law : String := "JustMovesLaw"
def lw_P (b : Addr) (xs : List Int32) (args : Array Value) (s : State) : Prop := args = #[.ref b] ∧ s.IntsAt b xs ∧ xs.length ≤ 2560 ∧ (Jvm.Cond.and given_1 narrow_1).before args s = true
def lw_Q (_ : Array Value) (s : State) (o : Outcome) (t : State) : Prop := o = .returned (some (.int 1)) ∧ Framed s o t [] 600000 7302250
def lw_Z (below : List Frame) (a : Array Value) (s : State) : State → Prop := fun t => ∃ o, t.status = .running ∧ Ended t below o ∧ lw_Q a s o t
/-- the law's own end, with 1 on the stack, nothing written that was there before, its room as the claim has it -/
theorem lw_ret {p : Program} {l : Launch} {e : Env} {s : State} {m : MethodId} {below : List Frame} {meth : Method} {c : Code} {b : Nat} (hx : p.tables.exec = Jvm.exec) (hb : c.code = code) (hr : meth.sig.returnType = ret) (hlocks : meth.locks = false) {pc : Nat} {H : Heap} {ls : Array Slot} (hdg : decode code pc = .ok (.ireturn, 1)) : W p l e room_1 s m #[Value.ref b] below meth c H [] 600000 7302250 (lw_Z below #[Value.ref b] s) (F0 m pc ls [.int 1]) := by
  intro T hT X
  obtain ⟨fs, hret, hrun, hended, hW, hframe⟩ := X.leave (v := some (.int 1)) (hlocks := hlocks) (fun h => by rw [hr] at h; cases h)
  have hmeth' : T.vm.method? m = some meth := X.method'
  refine ⟨T.setFrames fs, ?_, .returned (some (.int 1)), hrun, hended, rfl, ⟨_, rfl⟩, hW, hframe⟩
  jvm_step X.here [X.here.top, hx, hb, hdg, hmeth', hr, ret, narrow_b1]
  (try refine ⟨rfl, ?_⟩); (try refine ⟨rfl, ?_⟩)
  first | (intro acts; rw [hret _ acts rfl rfl rfl]) | rw [hret _ _ rfl rfl rfl]
  exact Steps.refl _
/-- what holds at the law's entry: the machine, the code, the tables' words (any of lw_tbl by 'hts w (by decide +kernel)'), the script of L ints xs at the cell b, what the Statement gives of the start (any of its parts by flat_of_before) -/
def lw_At (p : Program) (s : State) (m : MethodId) (meth : Method) (c : Code) (b L : Nat) (xs : Nat → Int32) : Prop :=
  p.tables.exec = Jvm.exec ∧ c.code = code ∧ meth.sig.returnType = ret ∧ c.maxLocals = 4 ∧ s.vm.findClass R_law = some m.cls ∧ (∀ w ∈ lw_tbl, w.before #[Value.ref b] s = true) ∧ va_X b L xs s s.heap ∧ b < s.heap.size ∧ meth.locks = false ∧ (Jvm.Cond.and given_1 narrow_1).before #[Value.ref b] s = true
/-! FROM THE ABSTRACT MACHINE TO THE CLAIM'S START -/
def md_law : aMd := (yL_law, code, 4, some .boolean, room_1)
def aH0 : aH := ([], fun _ _ => 0, fun _ _ => 0, fun _ _ => none)
theorem aTbl_in {i : Nat} {w : Cond} (h : tables_1[i]? = some w) : w ∈ lw_tbl := List.mem_append_right _ (List.mem_of_getElem? h)
theorem aOne {args : Array Value} {s : State} {nm : String} {N : Nat} {f : Nat → Int32} {A : Nat → Prop} (hN : N < 2 ^ 31) (hs : ∀ c ∈ flatC (Jvm.Cond.and given_1 narrow_1), c.before args s = true) (hl : (Cond.laysStatic "JustMoves" nm "[I").before args s = true) (hini : (Cond.initialized "JustMoves").before args s = true) (hA : ∀ a : Nat, a < s.heap.size → ¬ A a)
    (q1 : Cond.arrayOf (.static "JustMoves" nm "[I") .int ∈ flatC (Jvm.Cond.and given_1 narrow_1)) (q2 : Cond.eq (.length (.static "JustMoves" nm "[I")) (.int (Int32.ofNat N)) ∈ flatC (Jvm.Cond.and given_1 narrow_1)) (q3 : ∀ j, j < N → Cond.eq (.elem (.static "JustMoves" nm "[I") (.int (Int32.ofNat j))) (.int (f j)) ∈ flatC (Jvm.Cond.and given_1 narrow_1)) :
    ∃ t : Nat, va_Z "JustMoves" nm "[I" (.ref t) A s s.heap ∧ va_T .int t N (fun n => .int (f n)) A s s.heap := by
  obtain ⟨t, h1, h2⟩ := va_Tof (tm := .static "JustMoves" nm "[I") (f := fun n => Value.int (f n)) hN (hs _ q1) (va_eqt (hs _ q2)) (fun j hj => va_eqt (hs _ (q3 j hj))) hA
  exact ⟨t, va_Zof hl hini h1 hA, h2⟩
theorem aKnown {s : State} {args : Array Value} (hts : ∀ w ∈ aTb, w.before args s = true) : ∃ D : va_G, ∀ (k : Nat) (q : vw_C), vwCl[k]? = some q → u_Kn s q.1 q.2.1 q.2.2 (D.1 k) (D.2 k) := by
  have key : ∀ (k : Nat), ∃ (cC : ClassId) (iS : Nat → Nat), ∀ q : vw_C, vwCl[k]? = some q → u_Kn s q.1 q.2.1 q.2.2 cC iS := by
    intro k
    cases hk : vwCl[k]? with
    | none => exact ⟨0, fun _ => 0, fun q h => by cases h⟩
    | some q =>
      obtain ⟨C, T, N⟩ := q
      obtain ⟨w1, w2⟩ := aCls k C T N hk
      obtain ⟨cC, iS, h⟩ := u_known (C := C) (T := T) (N := N) (n := N) hts w1 (hts _ w2)
      exact ⟨cC, iS, fun q hq => by cases hq; exact h⟩
  exact ⟨(fun k => Classical.choose (key k), fun k => Classical.choose (Classical.choose_spec (key k))), fun k q hq => Classical.choose_spec (Classical.choose_spec (key k)) q hq⟩
theorem aArrP {s : State} {args : Array Value} {ty : FieldType} (h : (Cond.arrayClass ty).before args s = true) (hty : ∀ C, ty ≠ .object C) : ∃ cA : ClassId, ArrOfT s cA ty ∧ va_RA s cA ty := by
  obtain ⟨cA, kA, comp, h1, h2, h3⟩ := Cond.arrayClass_spec h
  refine ⟨cA, fun n z => ⟨fun k h => (by cases h), kA, h2, comp, h3⟩, ?_⟩
  cases ty with
  | object C => exact absurd rfl (hty C)
  | _ => exact h1
theorem aArrO {s : State} {args : Array Value} {C : String} (h : (Cond.arrayOver (.object C)).before args s = true) : ∃ cA : ClassId, ArrOfT s cA (.object C) ∧ va_RA s cA (.object C) := by
  obtain ⟨comp, c, k, h1, h2, h3, h4, h5⟩ := Cond.arrayOver_spec h
  exact ⟨c, fun n z => ⟨fun k h => (by cases h), k, h3, comp, h4⟩, k, comp, h3, h4, h1, h5⟩
theorem aArrA {s : State} {args : Array Value} (h : (Cond.arrayOver (.array .long)).before args s = true) : ∃ cA : ClassId, ArrOfT s cA (.array .long) ∧ va_RA s cA (.array .long) := by
  have h9 : (Cond.arrayOver (.array .long)).holds args s none s [] = true := h
  simp only [Cond.holds, Cond.value, beq_iff_eq] at h9
  cases hc : s.vm.findClass (FieldType.array .long).toString with
  | none => simp [hc] at h9
  | some comp =>
    simp only [hc, Option.bind_some, Option.bind_eq_some_iff, Option.map_eq_some_iff] at h9
    obtain ⟨c, -, k, hk, hb⟩ := h9
    cases hkind : k.kind with
    | array cm ty =>
      rw [hkind] at hb
      simp only [Bool.and_eq_true, decide_eq_true_eq] at hb
      obtain ⟨hb1, hb2⟩ := hb
      subst hb1
      exact ⟨c, fun n z => ⟨fun k h => (by cases h), k, hk, cm, hkind⟩, hb2⟩
    | _ => rw [hkind] at hb; cases hb
set_option maxHeartbeats 4000000 in
set_option maxRecDepth 100000 in
theorem aBegin {p : Program} {e : Env} {s : State} {m : MethodId} {below : List Frame} {meth : Method} {c : Code} (l : Launch) {b L : Nat} {xs : Nat → Int32} (C0 : lw_At p s m meth c b L xs) (run : aX md_law (aE0 ++ [(L, xs)]) aH0 0 [(0, .ref 7)] [] 600000 7302250 (fun r _ => r = some (.int 1))) :
    W p l e room_1 s m #[Value.ref b] below meth c s.heap [] 0 0 (lw_Z below #[Value.ref b] s) (entryFrame m ([Value.ref b] : List Value).toArray 4) := by
  obtain ⟨hx, hb, hr, hml, hown, hts, hX, hbl, hlocks, hgv⟩ := id C0
  have hflat := flat_of_before _ hgv
  have htb : ∀ w ∈ aTb, w.before #[Value.ref b] s = true := fun w hw => hts w (List.mem_filter.mp hw).1
  have hA : ∀ a : Nat, a < s.heap.size → ¬ (fun q : Nat => s.heap.size ≤ q) a := fun a h => Nat.not_le.mpr h
  obtain ⟨D, hD⟩ := aKnown htb
  obtain ⟨t0, hz0, ht0⟩ := aOne (nm := "FIRST_UP") (N := 12) (f := fun n => (([1, 16, 9, 6, 5, 4, 45, 3, 8, 5, 9, 15] : List Int32).getD n 0)) (by decide) hflat (hts _ (aNi1 (i := 32) rfl)) (hts _ (aNi1 (i := 1) rfl)) hA (by decide +kernel) (by decide +kernel) (by decide +kernel)
  obtain ⟨t1, hz1, ht1⟩ := aOne (nm := "FIRST_DOWN") (N := 12) (f := fun n => (([1, 15, 8, 5, 4, 3, 32, 2, 5, 3, 5, 8] : List Int32).getD n 0)) (by decide) hflat (hts _ (aNi1 (i := 34) rfl)) (hts _ (aNi1 (i := 1) rfl)) hA (by decide +kernel) (by decide +kernel) (by decide +kernel)
  obtain ⟨t2, hz2, ht2⟩ := aOne (nm := "PRIMES") (N := 6) (f := fun n => (([2, 3, 5, 7, 11, 13] : List Int32).getD n 0)) (by decide) hflat (hts _ (aNi1 (i := 44) rfl)) (hts _ (aNi1 (i := 1) rfl)) hA (by decide +kernel) (by decide +kernel) (by decide +kernel)
  obtain ⟨t3, hz3, ht3⟩ := aOne (nm := "LOGS") (N := 6) (f := fun n => (([120000, 190196, 278631, 336883, 415132, 444053] : List Int32).getD n 0)) (by decide) hflat (hts _ (aNi1 (i := 49) rfl)) (hts _ (aNi1 (i := 1) rfl)) hA (by decide +kernel) (by decide +kernel) (by decide +kernel)
  obtain ⟨t4, hz4, ht4⟩ := aOne (nm := "FIRST_WEIGHTS") (N := 5) (f := fun n => (([100000, 1, 4, 2, 1] : List Int32).getD n 0)) (by decide) hflat (hts _ (aNi1 (i := 204) rfl)) (hts _ (aNi1 (i := 1) rfl)) hA (by decide +kernel) (by decide +kernel) (by decide +kernel)
  obtain ⟨t5, hz5, ht5⟩ := aOne (nm := "GREATEST_WEIGHTS") (N := 5) (f := fun n => (([1000000, 99, 99, 99, 99] : List Int32).getD n 0)) (by decide) hflat (hts _ (aNi3 (i := 46) rfl)) (hts _ (aNi1 (i := 1) rfl)) hA (by decide +kernel) (by decide +kernel) (by decide +kernel)
  obtain ⟨t6, hz6, ht6⟩ := aOne (nm := "MODULI") (N := 20) (f := fun n => (([1073741789, 1073741783, 1073741741, 1073741723, 1073741719, 1073741717, 1073741689, 1073741671, 1073741663, 1073741651, 1073741621, 1073741567, 1073741561, 1073741527, 1073741503, 1073741477, 1073741467, 1073741441, 1073741419, 1073741399] : List Int32).getD n 0)) (by decide) hflat (hts _ (aNi4 (i := 38) rfl)) (hts _ (aNi1 (i := 1) rfl)) hA (by decide +kernel) (by decide +kernel) (by decide +kernel)
  obtain ⟨cy0, hy0⟩ := aArrP (ty := .int) (hts _ (aNi1 (i := 72) rfl)) (fun C h => by cases h)
  obtain ⟨cy1, hy1⟩ := aArrP (ty := .boolean) (hts _ (aNi1 (i := 149) rfl)) (fun C h => by cases h)
  obtain ⟨cy2, hy2⟩ := aArrP (ty := .byte) (hts _ (aNi1 (i := 202) rfl)) (fun C h => by cases h)
  obtain ⟨cy3, hy3⟩ := aArrP (ty := .long) (hts _ (aNi2 (i := 26) rfl)) (fun C h => by cases h)
  have hO : (Cond.arrayOver (.object "JustMoves$Whole")).before #[Value.ref b] s = true := hts _ (aNi2 (i := 115) rfl)
  have hAA : (Cond.arrayOver (.array .long)).before #[Value.ref b] s = true := hts _ (aNi2 (i := 71) rfl)
  obtain ⟨cy4, hy4⟩ := aArrO hO
  obtain ⟨cy5, hy5⟩ := aArrA hAA
  have hK : va_K D vwCl (aTys (D, fun k => match k with | 0 => cy0 | 1 => cy1 | 2 => cy2 | 3 => cy3 | 4 => cy4 | _ => cy5)) s := by
    refine ⟨hD, fun k q hq => ?_⟩
    match k, hq with
    | 0, hq => cases hq; exact hy0
    | 1, hq => cases hq; exact hy1
    | 2, hq => cases hq; exact hy2
    | 3, hq => cases hq; exact hy3
    | 4, hq => cases hq; exact hy4
    | 5, hq => cases hq; exact hy5
    | k + 6, hq => simp at hq
  have hTx : va_T .int b L (fun n => .int (xs n)) (fun q : Nat => s.heap.size ≤ q) s s.heap := by
    obtain ⟨scr, h1, h2, h3, h4, h5⟩ := hX
    exact ⟨scr, h1, h2, h3, Nat.le_of_eq h4.symm, by rw [h4], h5, Nat.not_le.mpr hbl⟩
  have hk : aK (D, fun k => match k with | 0 => cy0 | 1 => cy1 | 2 => cy2 | 3 => cy3 | 4 => cy4 | _ => cy5) (aE0 ++ [(L, xs)]) (fun k => match k with | 0 => t0 | 1 => t1 | 2 => t2 | 3 => t3 | 4 => t4 | 5 => t5 | 6 => t6 | 7 => b | _ => 0) (fun q : Nat => s.heap.size ≤ q) s := by
    refine ⟨hK, fun _ h => h, by simp [aE0], fun i q hq => ?_, fun i nm hi => ?_, fun w hw => ?_, hO, hAA⟩
    · match i, hq with
      | 0, hq => cases hq; exact ht0
      | 1, hq => cases hq; exact ht1
      | 2, hq => cases hq; exact ht2
      | 3, hq => cases hq; exact ht3
      | 4, hq => cases hq; exact ht4
      | 5, hq => cases hq; exact ht5
      | 6, hq => cases hq; exact ht6
      | 7, hq => cases hq; exact hTx
      | k + 8, hq => simp [aE0] at hq
    · match i, hi with
      | 0, hi => cases hi; exact hz0
      | 1, hi => cases hi; exact hz1
      | 2, hi => cases hi; exact hz2
      | 3, hi => cases hi; exact hz3
      | 4, hi => cases hi; exact hz4
      | 5, hi => cases hi; exact hz5
      | 6, hi => cases hi; exact hz6
      | k + 7, hi => simp [aSt] at hi
    · have hm : w ∈ lw_tbl := aNs_in w hw
      refine va_Nw.of ?_ (hts w hm)
      unfold aNs at hw
      simp only [List.mem_cons, List.not_mem_nil, or_false] at hw
      rcases hw with rfl | rfl | rfl | rfl | rfl | rfl | rfl | rfl | rfl | rfl | rfl <;> rfl
  have hl := lv_entry ([.ref b]) (n := 4) (Nat.le_of_ble_eq_true rfl)
  rw [lg_entry_eq]
  refine run p l e s m #[Value.ref b] below meth c _ _ (fun q : Nat => s.heap.size ≤ q) s.heap [] 0 0 _ _ ⟨hx, hb, hml, hown, htb, fun z => absurd z (by decide), hk⟩ ⟨fun k q h => by simp [aWs, aH0] at h, ⟨fun i j p q h => by simp [aWs, aH0] at h, fun k q h => by simp [aWs, aH0] at h⟩, va_S.rf⟩ hl (Nat.le_of_eq (Nat.zero_add _)) (Nat.le_of_eq (Nat.zero_add _)) ?_
  intro ad' h' r H locs cells slots pc ls hLe hR hc1 hc2 hq hret
  subst hq
  refine W.widen (k := 600000) (n := 7302250) hc1 hc2 (va_forget hR.2.2.2.2 ?_)
  exact lw_ret hx hb hr hlocks hret.1
end
section
/-! ROWS FOR HAND WORK: numbers as nI, calls in one word -/
def bI (b : Bool) : Int32 := if b then 1 else 0
theorem bI_01 (b : Bool) : bI b = 0 ∨ bI b = 1 := by cases b <;> simp [bI]
theorem nI_inj {a b : Nat} (ha : a < 2 ^ 31) (hb : b < 2 ^ 31) (h : nI a = nI b) : a = b := (nI_eq ha hb).mp h
def aLV (md : aMd) (idx : Nat) (md' : aMd) (n ci : Nat) : Prop := aWm md' ∧ Cond.methodLink md.1.cls idx md'.1 ∈ aTb ∧ Cond.instanceMethod md'.1 ∈ aTb ∧ Cond.selects md'.1.cls md'.1 md'.1 ∈ aTb ∧ (∃ (T : u_T) (N : Nat), vwCl[ci]? = some (md'.1.cls, T, N)) ∧ aPn md' n ∧ aRm md md' ∧ md'.2.2.2.2.cells = 0 ∧ md'.2.2.2.2.slots = 0
def aLS (md : aMd) (idx : Nat) (md' : aMd) (n : Nat) : Prop := aWm md' ∧ Cond.methodLink md.1.cls idx md'.1 ∈ aTb ∧ Cond.static md'.1 ∈ aTb ∧ aPn md' n ∧ aRm md md' ∧ md'.2.2.2.2.cells = 0 ∧ md'.2.2.2.2.slots = 0
def aEok (E : aE) : Prop := ∀ (i : Nat) (q : Nat × (Nat → Int32)), aE0[i]? = some q → E[i]? = some q
theorem aEok0 : aEok aE0 := fun _ _ h => h
section ACV
variable {md md' : aMd} {E : aE} {h : aH} {pc : Nat} {lv : List (Nat × Value)} {st stk : List Value} {bc bs : Nat} {Q Q' : Option Value → aH → Prop}
theorem cV {idx q ci z n : Nat} {As : List Value} (hd : decode md.2.1 pc = .ok (.invokevirtual idx, 3)) (hL : aLV md idx md' n ci) (hs : aSh h q = some (10 + ci, z)) (hE : aEok E) (hn : As.length = n) (hstk : stk = As.reverse ++ .ref q :: st) (hcat : (st.map fun v => v.category).sum ≤ 8) (hM : aM md' (.ref q :: As) h Q') (k : ∀ r h', Q' r h' → h'.1.length = h.1.length ∧ aX md E h' (pc + 3) lv (r.toList ++ st) bc bs Q) : aX md E h pc lv stk bc bs Q := by
  obtain ⟨w1, w2, w3, w4, ⟨T, N, w5⟩, w6, w7, w8⟩ := hL
  exact aX_callV hd w1 w2 w3 w4 w5 rfl w6 w7 hs hn hstk hcat hE hM w8 k
theorem cS {idx n : Nat} {As : List Value} (hd : decode md.2.1 pc = .ok (.invokestatic idx, 3)) (hL : aLS md idx md' n) (hE : aEok E) (hn : As.length = n) (hstk : stk = As.reverse ++ st) (hcat : (st.map fun v => v.category).sum ≤ 8) (hM : aM md' As h Q') (k : ∀ r h', Q' r h' → h'.1.length = h.1.length ∧ aX md E h' (pc + 3) lv (r.toList ++ st) bc bs Q) : aX md E h pc lv stk bc bs Q := by
  obtain ⟨w1, w2, w3, w4, w5, w6⟩ := hL
  exact aX_callS hd w1 w2 w3 w4 w5 hn hstk hcat hE hM w6 k
/-- a method that changes nothing and answers v -/
abbrev aMp (md : aMd) (vs : List Value) (h : aH) (v : Value) : Prop := aM md vs h (fun r h' => h' = h ∧ r = some v)
theorem cVp {idx q ci z n : Nat} {As : List Value} {v : Value} (hd : decode md.2.1 pc = .ok (.invokevirtual idx, 3)) (hL : aLV md idx md' n ci) (hs : aSh h q = some (10 + ci, z)) (hE : aEok E) (hn : As.length = n) (hstk : stk = As.reverse ++ .ref q :: st) (hcat : (st.map fun v => v.category).sum ≤ 8) (hM : aMp md' (.ref q :: As) h v) (k : aX md E h (pc + 3) lv (v :: st) bc bs Q) : aX md E h pc lv stk bc bs Q :=
  cV hd hL hs hE hn hstk hcat hM (fun r h' hq => by obtain ⟨rfl, rfl⟩ := hq; exact ⟨rfl, k⟩)
theorem cSp {idx n : Nat} {As : List Value} {v : Value} (hd : decode md.2.1 pc = .ok (.invokestatic idx, 3)) (hL : aLS md idx md' n) (hE : aEok E) (hn : As.length = n) (hstk : stk = As.reverse ++ st) (hcat : (st.map fun v => v.category).sum ≤ 8) (hM : aMp md' As h v) (k : aX md E h (pc + 3) lv (v :: st) bc bs Q) : aX md E h pc lv stk bc bs Q :=
  cS hd hL hE hn hstk hcat hM (fun r h' hq => by obtain ⟨rfl, rfl⟩ := hq; exact ⟨rfl, k⟩)
theorem rI {x : Int32} (hd : decode md.2.1 pc = .ok (.ireturn, 1)) (hr : md.2.2.2.1 = some .int) (hq : Q (some (.int x)) h) : aX md E h pc lv [.int x] bc bs Q := aX_ret (r := some (.int x)) ⟨hd, Or.inl hr⟩ hq
theorem rZ {x : Int32} (hd : decode md.2.1 pc = .ok (.ireturn, 1)) (hr : md.2.2.2.1 = some .boolean) (hx : x = 0 ∨ x = 1) (hq : Q (some (.int x)) h) : aX md E h pc lv [.int x] bc bs Q := aX_ret (r := some (.int x)) ⟨hd, Or.inr ⟨hr, hx⟩⟩ hq
theorem rL {x : Int64} (hd : decode md.2.1 pc = .ok (.lreturn, 1)) (hr : md.2.2.2.1 = some .long) (hq : Q (some (.long x)) h) : aX md E h pc lv [.long x] bc bs Q := aX_ret (r := some (.long x)) ⟨hd, hr⟩ hq
theorem rV (hd : decode md.2.1 pc = .ok (.return_, 1)) (hr : md.2.2.2.1 = none) (hq : Q none h) : aX md E h pc lv [] bc bs Q := aX_ret (r := none) ⟨hd, hr⟩ hq
theorem nAdd {a b : Nat} (hd : decode md.2.1 pc = .ok (.iadd, 1)) (k : aX md E h (pc + 1) lv (.int (nI (a + b)) :: st) bc bs Q) : aX md E h pc lv (.int (nI b) :: .int (nI a) :: st) bc bs Q := aX_iadd hd (by rw [nI_add]; exact k)
theorem nSub {a b : Nat} (hd : decode md.2.1 pc = .ok (.isub, 1)) (hb : b ≤ a) (k : aX md E h (pc + 1) lv (.int (nI (a - b)) :: st) bc bs Q) : aX md E h pc lv (.int (nI b) :: .int (nI a) :: st) bc bs Q := aX_isub hd (by rw [pk_sub hb]; exact k)
theorem nMul {a b : Nat} (hd : decode md.2.1 pc = .ok (.imul, 1)) (k : aX md E h (pc + 1) lv (.int (nI (a * b)) :: st) bc bs Q) : aX md E h pc lv (.int (nI b) :: .int (nI a) :: st) bc bs Q := aX_imul hd (by rw [pk_mul]; exact k)
theorem nDiv {a b : Nat} (hd : decode md.2.1 pc = .ok (.idiv, 1)) (ha : a < 2 ^ 31) (h0 : 0 < b) (hb : b < 2 ^ 31) (k : aX md E h (pc + 1) lv (.int (nI (a / b)) :: st) bc bs Q) : aX md E h pc lv (.int (nI b) :: .int (nI a) :: st) bc bs Q := aX_idiv hd (nI_ne0 h0 hb) (by rw [pk_div ha h0 hb]; exact k)
theorem nRem {a b : Nat} (hd : decode md.2.1 pc = .ok (.irem, 1)) (ha : a < 2 ^ 31) (h0 : 0 < b) (hb : b < 2 ^ 31) (k : aX md E h (pc + 1) lv (.int (nI (a % b)) :: st) bc bs Q) : aX md E h pc lv (.int (nI b) :: .int (nI a) :: st) bc bs Q := aX_irem hd (nI_ne0 h0 hb) (by rw [pk_rem ha h0 hb]; exact k)
theorem nInc {i a : Nat} {n : Int} {lv' : List (Nat × Value)} (hd : decode md.2.1 pc = .ok (.iinc i n, 3)) (h1 : n = 1) (hg : aGet i lv = some (.int (nI a))) (hn : i < md.2.2.1) (hs : aS1 i (.int (nI (a + 1))) lv = lv') (k : aX md E h (pc + 3) lv' st bc bs Q) : aX md E h pc lv st bc bs Q := by
  subst h1
  exact aX_iinc hd hg (show nI a + 1 = nI (a + 1) from nI_1 a) hn hs k
theorem nDec {i a : Nat} {n : Int} {lv' : List (Nat × Value)} (hd : decode md.2.1 pc = .ok (.iinc i n, 3)) (h1 : n = -1) (hg : aGet i lv = some (.int (nI (a + 1)))) (hn : i < md.2.2.1) (hs : aS1 i (.int (nI a)) lv = lv') (k : aX md E h (pc + 3) lv' st bc bs Q) : aX md E h pc lv st bc bs Q := by
  subst h1
  exact aX_iinc hd hg (show nI (a + 1) + (-1) = nI a from pk_m1 a) hn hs k
theorem nLt {a b : Nat} {off : Int} {tgt : Nat} (hd : decode md.2.1 pc = .ok (.if_icmp .lt off, 3)) (ht : (pc : Int) + off = (tgt : Int)) (ha : a < 2 ^ 31) (hb : b < 2 ^ 31) (kt : a < b → aX md E h tgt lv st bc bs Q) (kf : b ≤ a → aX md E h (pc + 3) lv st bc bs Q) : aX md E h pc lv (.int (nI b) :: .int (nI a) :: st) bc bs Q :=
  aX_icmp_lt hd ht (fun c => kt ((nI_ltI ha hb).mp c)) (fun c => kf (Nat.not_lt.mp (fun z => c ((nI_ltI ha hb).mpr z))))
theorem nGe {a b : Nat} {off : Int} {tgt : Nat} (hd : decode md.2.1 pc = .ok (.if_icmp .ge off, 3)) (ht : (pc : Int) + off = (tgt : Int)) (ha : a < 2 ^ 31) (hb : b < 2 ^ 31) (kt : b ≤ a → aX md E h tgt lv st bc bs Q) (kf : a < b → aX md E h (pc + 3) lv st bc bs Q) : aX md E h pc lv (.int (nI b) :: .int (nI a) :: st) bc bs Q :=
  aX_icmp_ge hd ht (fun c => kt ((nI_leI hb ha).mp c)) (fun c => kf (Nat.not_le.mp (fun z => c ((nI_leI hb ha).mpr z))))
theorem nGt {a b : Nat} {off : Int} {tgt : Nat} (hd : decode md.2.1 pc = .ok (.if_icmp .gt off, 3)) (ht : (pc : Int) + off = (tgt : Int)) (ha : a < 2 ^ 31) (hb : b < 2 ^ 31) (kt : b < a → aX md E h tgt lv st bc bs Q) (kf : a ≤ b → aX md E h (pc + 3) lv st bc bs Q) : aX md E h pc lv (.int (nI b) :: .int (nI a) :: st) bc bs Q :=
  aX_icmp_gt hd ht (fun c => kt ((nI_ltI hb ha).mp c)) (fun c => kf (Nat.not_lt.mp (fun z => c ((nI_ltI hb ha).mpr z))))
theorem nLe {a b : Nat} {off : Int} {tgt : Nat} (hd : decode md.2.1 pc = .ok (.if_icmp .le off, 3)) (ht : (pc : Int) + off = (tgt : Int)) (ha : a < 2 ^ 31) (hb : b < 2 ^ 31) (kt : a ≤ b → aX md E h tgt lv st bc bs Q) (kf : b < a → aX md E h (pc + 3) lv st bc bs Q) : aX md E h pc lv (.int (nI b) :: .int (nI a) :: st) bc bs Q :=
  aX_icmp_le hd ht (fun c => kt ((nI_leI ha hb).mp c)) (fun c => kf (Nat.not_le.mp (fun z => c ((nI_leI ha hb).mpr z))))
theorem nEq {a b : Nat} {off : Int} {tgt : Nat} (hd : decode md.2.1 pc = .ok (.if_icmp .eq off, 3)) (ht : (pc : Int) + off = (tgt : Int)) (ha : a < 2 ^ 31) (hb : b < 2 ^ 31) (kt : a = b → aX md E h tgt lv st bc bs Q) (kf : a ≠ b → aX md E h (pc + 3) lv st bc bs Q) : aX md E h pc lv (.int (nI b) :: .int (nI a) :: st) bc bs Q :=
  aX_icmp_eq hd ht (fun c => kt ((nI_eq ha hb).mp c)) (fun c => kf (fun z => c ((nI_eq ha hb).mpr z)))
theorem nNe {a b : Nat} {off : Int} {tgt : Nat} (hd : decode md.2.1 pc = .ok (.if_icmp .ne off, 3)) (ht : (pc : Int) + off = (tgt : Int)) (ha : a < 2 ^ 31) (hb : b < 2 ^ 31) (kt : a ≠ b → aX md E h tgt lv st bc bs Q) (kf : a = b → aX md E h (pc + 3) lv st bc bs Q) : aX md E h pc lv (.int (nI b) :: .int (nI a) :: st) bc bs Q :=
  aX_icmp_ne hd ht (fun c => kt (fun z => c ((nI_eq ha hb).mpr z))) (fun c => kf ((nI_eq ha hb).mp c))
theorem bEq {b : Bool} {off : Int} {tgt : Nat} (hd : decode md.2.1 pc = .ok (.ifCond .eq off, 3)) (ht : (pc : Int) + off = (tgt : Int)) (kt : b = false → aX md E h tgt lv st bc bs Q) (kf : b = true → aX md E h (pc + 3) lv st bc bs Q) : aX md E h pc lv (.int (bI b) :: st) bc bs Q :=
  aX_if_eq hd ht (fun c => kt (by cases b <;> simp [bI] at c ⊢)) (fun c => kf (by cases b <;> simp [bI] at c ⊢))
theorem bNe {b : Bool} {off : Int} {tgt : Nat} (hd : decode md.2.1 pc = .ok (.ifCond .ne off, 3)) (ht : (pc : Int) + off = (tgt : Int)) (kt : b = true → aX md E h tgt lv st bc bs Q) (kf : b = false → aX md E h (pc + 3) lv st bc bs Q) : aX md E h pc lv (.int (bI b) :: st) bc bs Q :=
  aX_if_ne hd ht (fun c => kt (by cases b <;> simp [bI] at c ⊢)) (fun c => kf (by cases b <;> simp [bI] at c ⊢))
theorem nIf_eq {a : Nat} {off : Int} {tgt : Nat} (hd : decode md.2.1 pc = .ok (.ifCond .eq off, 3)) (ht : (pc : Int) + off = (tgt : Int)) (ha : a < 2 ^ 31) (kt : a = 0 → aX md E h tgt lv st bc bs Q) (kf : 0 < a → aX md E h (pc + 3) lv st bc bs Q) : aX md E h pc lv (.int (nI a) :: st) bc bs Q :=
  aX_if_eq hd ht (fun c => kt ((nI_eq ha (by decide)).mp c)) (fun c => kf (Nat.pos_of_ne_zero (fun z => c (by rw [z]; rfl))))
theorem nIf_ne {a : Nat} {off : Int} {tgt : Nat} (hd : decode md.2.1 pc = .ok (.ifCond .ne off, 3)) (ht : (pc : Int) + off = (tgt : Int)) (ha : a < 2 ^ 31) (kt : 0 < a → aX md E h tgt lv st bc bs Q) (kf : a = 0 → aX md E h (pc + 3) lv st bc bs Q) : aX md E h pc lv (.int (nI a) :: st) bc bs Q :=
  aX_if_ne hd ht (fun c => kt (Nat.pos_of_ne_zero (fun z => c (by rw [z]; rfl)))) (fun c => kf ((nI_eq ha (by decide)).mp c))
theorem nIf_le {a : Nat} {off : Int} {tgt : Nat} (hd : decode md.2.1 pc = .ok (.ifCond .le off, 3)) (ht : (pc : Int) + off = (tgt : Int)) (ha : a < 2 ^ 31) (kt : a = 0 → aX md E h tgt lv st bc bs Q) (kf : 0 < a → aX md E h (pc + 3) lv st bc bs Q) : aX md E h pc lv (.int (nI a) :: st) bc bs Q :=
  aX_if_le hd ht (fun c => kt (by have := (nI_leI ha (b := 0) (by decide)).mp c; omega)) (fun c => kf (Nat.pos_of_ne_zero (fun z => c (by rw [z]; decide))))
theorem nIf_gt {a : Nat} {off : Int} {tgt : Nat} (hd : decode md.2.1 pc = .ok (.ifCond .gt off, 3)) (ht : (pc : Int) + off = (tgt : Int)) (ha : a < 2 ^ 31) (kt : 0 < a → aX md E h tgt lv st bc bs Q) (kf : a = 0 → aX md E h (pc + 3) lv st bc bs Q) : aX md E h pc lv (.int (nI a) :: st) bc bs Q :=
  aX_if_gt hd ht (fun c => kt ((nI_ltI (a := 0) (by decide) ha).mp c)) (fun c => kf (by
    rcases Nat.eq_zero_or_pos a with z | z
    · exact z
    · exact absurd ((nI_ltI (a := 0) (by decide) ha).mpr z) c))
theorem nIald {q n j : Nat} {v : Int32} (hd : decode md.2.1 pc = .ok (.iaload, 1)) (hs : aSh h q = some (0, n)) (hj : j < n) (hn : n < 2 ^ 31) (hv : h.2.1 q j = v) (k : aX md E h (pc + 1) lv (.int v :: st) bc bs Q) : aX md E h pc lv (.int (nI j) :: .ref q :: st) bc bs Q :=
  aX_iald hd hs (vp_in_nI hj hn) (by rw [nI_clamp (by omega), hv]; exact k)
theorem nZald {q n j : Nat} {v : Int32} (hd : decode md.2.1 pc = .ok (.baload, 1)) (hs : aSh h q = some (1, n)) (hj : j < n) (hn : n < 2 ^ 31) (hv : h.2.1 q j = v) (k : aX md E h (pc + 1) lv (.int v :: st) bc bs Q) : aX md E h pc lv (.int (nI j) :: .ref q :: st) bc bs Q :=
  aX_zald hd hs (vp_in_nI hj hn) (by rw [nI_clamp (by omega), hv]; exact k)
theorem nBald {q n j : Nat} {v : Int32} (hd : decode md.2.1 pc = .ok (.baload, 1)) (hs : aSh h q = some (2, n)) (hj : j < n) (hn : n < 2 ^ 31) (hv : h.2.1 q j = v) (k : aX md E h (pc + 1) lv (.int v :: st) bc bs Q) : aX md E h pc lv (.int (nI j) :: .ref q :: st) bc bs Q :=
  aX_bald hd hs (vp_in_nI hj hn) (by rw [nI_clamp (by omega), hv]; exact k)
theorem nLald {q n j : Nat} {v : Int64} (hd : decode md.2.1 pc = .ok (.laload, 1)) (hs : aSh h q = some (3, n)) (hj : j < n) (hn : n < 2 ^ 31) (hv : h.2.2.1 q j = v) (k : aX md E h (pc + 1) lv (.long v :: st) bc bs Q) : aX md E h pc lv (.int (nI j) :: .ref q :: st) bc bs Q :=
  aX_lald hd hs (vp_in_nI hj hn) (by rw [nI_clamp (by omega), hv]; exact k)
theorem nAald {q n j r kd : Nat} (hd : decode md.2.1 pc = .ok (.aaload, 1)) (hs : aSh h q = some (kd, n)) (hkd : kd = 4 ∨ kd = 5) (hj : j < n) (hn : n < 2 ^ 31) (hv : h.2.2.2 q j = some r) (k : aX md E h (pc + 1) lv (.ref r :: st) bc bs Q) : aX md E h pc lv (.int (nI j) :: .ref q :: st) bc bs Q :=
  aX_aald hd hs hkd (vp_in_nI hj hn) (by rw [nI_clamp (by omega)]; exact hv) k
theorem nEld {q n j : Nat} {f : Nat → Int32} {v : Int32} (hd : decode md.2.1 pc = .ok (.iaload, 1)) (hE : E[q]? = some (n, f)) (hj : j < n) (hn : n < 2 ^ 31) (hv : f j = v) (k : aX md E h (pc + 1) lv (.int v :: st) bc bs Q) : aX md E h pc lv (.int (nI j) :: .ref q :: st) bc bs Q :=
  aX_eld hd hE (vp_in_nI hj hn) (by rw [nI_clamp (by omega), hv]; exact k)
end ACV
section ACS
variable {md : aMd} {E : aE} {sh : List (Nat × Nat)} {I : Nat → Nat → Int32} {L : Nat → Nat → Int64} {R : Nat → Nat → Option Nat} {pc : Nat} {lv : List (Nat × Value)} {st : List Value} {bc bs : Nat} {Q : Option Value → aH → Prop}
theorem nIast {q n j : Nat} {x : Int32} (hd : decode md.2.1 pc = .ok (.iastore, 1)) (hs : aSh (sh, I, L, R) q = some (0, n)) (hj : j < n) (hn : n < 2 ^ 31) (k : aX md E (sh, aU I q j x, L, R) (pc + 1) lv st bc bs Q) : aX md E (sh, I, L, R) pc lv (.int x :: .int (nI j) :: .ref q :: st) bc bs Q :=
  aX_iast hd hs (vp_in_nI hj hn) (by rw [nI_clamp (by omega)]; exact k)
theorem nZast {q n j : Nat} {b : Bool} (hd : decode md.2.1 pc = .ok (.bastore, 1)) (hs : aSh (sh, I, L, R) q = some (1, n)) (hj : j < n) (hn : n < 2 ^ 31) (k : aX md E (sh, aU I q j (bI b), L, R) (pc + 1) lv st bc bs Q) : aX md E (sh, I, L, R) pc lv (.int (bI b) :: .int (nI j) :: .ref q :: st) bc bs Q :=
  aX_zast hd hs (vp_in_nI hj hn) (by rw [nI_clamp (by omega), show vp_nar .boolean (bI b) = bI b by cases b <;> rfl]; exact k)
theorem nBast {q n j : Nat} {x : Int32} (hd : decode md.2.1 pc = .ok (.bastore, 1)) (hs : aSh (sh, I, L, R) q = some (2, n)) (hj : j < n) (hn : n < 2 ^ 31) (k : aX md E (sh, aU I q j x.toInt8.toInt32, L, R) (pc + 1) lv st bc bs Q) : aX md E (sh, I, L, R) pc lv (.int x :: .int (nI j) :: .ref q :: st) bc bs Q :=
  aX_bast hd hs (vp_in_nI hj hn) (by rw [nI_clamp (by omega), vp_nar_byte]; exact k)
theorem nLast {q n j : Nat} {x : Int64} (hd : decode md.2.1 pc = .ok (.lastore, 1)) (hs : aSh (sh, I, L, R) q = some (3, n)) (hj : j < n) (hn : n < 2 ^ 31) (k : aX md E (sh, I, aU L q j x, R) (pc + 1) lv st bc bs Q) : aX md E (sh, I, L, R) pc lv (.long x :: .int (nI j) :: .ref q :: st) bc bs Q :=
  aX_last hd hs (vp_in_nI hj hn) (by rw [nI_clamp (by omega)]; exact k)
/-- a field that is no final one is written -/
theorem pI {idx ci f z q : Nat} {x : Int32} (hd : decode md.2.1 pc = .ok (.putfield idx, 3)) (hL : aLkF md.1.cls idx ci f) (hfin : ∀ C T N, vwCl[ci]? = some (C, T, N) → (T f).2.2.2 = false ∨ (C = md.1.cls ∧ md.1.name = "<init>")) (hs : aSh (sh, I, L, R) q = some (10 + ci, z)) (ht : aT ci f = .int) (k : aX md E (sh, aU I q f x, L, R) (pc + 3) lv st bc bs Q) : aX md E (sh, I, L, R) pc lv (.int x :: .ref q :: st) bc bs Q :=
  aX_put hd hL hfin hs (by rw [ht]; exact trivial) (by rw [ht]; exact k)
theorem pZ {idx ci f z q : Nat} {b : Bool} (hd : decode md.2.1 pc = .ok (.putfield idx, 3)) (hL : aLkF md.1.cls idx ci f) (hfin : ∀ C T N, vwCl[ci]? = some (C, T, N) → (T f).2.2.2 = false ∨ (C = md.1.cls ∧ md.1.name = "<init>")) (hs : aSh (sh, I, L, R) q = some (10 + ci, z)) (ht : aT ci f = .boolean) (k : aX md E (sh, aU I q f (bI b), L, R) (pc + 3) lv st bc bs Q) : aX md E (sh, I, L, R) pc lv (.int (bI b) :: .ref q :: st) bc bs Q :=
  aX_put hd hL hfin hs (by rw [ht]; exact bI_01 b) (by rw [ht]; exact k)
theorem pL {idx ci f z q : Nat} {x : Int64} (hd : decode md.2.1 pc = .ok (.putfield idx, 3)) (hL : aLkF md.1.cls idx ci f) (hfin : ∀ C T N, vwCl[ci]? = some (C, T, N) → (T f).2.2.2 = false ∨ (C = md.1.cls ∧ md.1.name = "<init>")) (hs : aSh (sh, I, L, R) q = some (10 + ci, z)) (ht : aT ci f = .long) (k : aX md E (sh, I, aU L q f x, R) (pc + 3) lv st bc bs Q) : aX md E (sh, I, L, R) pc lv (.long x :: .ref q :: st) bc bs Q :=
  aX_put hd hL hfin hs (by rw [ht]; exact trivial) (by rw [ht]; exact k)
end ACS
end
section
/-! THE WORLD BEHIND THE TWO CONSTRUCTORS: shapes, references; calls by caller and entry -/
def sh0 : List (Nat × Nat) := [(20, 0), (0, 5), (13, 0), (0, 37), (0, 37), (0, 37), (0, 222), (0, 12), (15, 0), (0, 16), (0, 16), (0, 16), (1, 16), (0, 31), (0, 31), (0, 31), (0, 31), (0, 186), (0, 496), (0, 6), (12, 0), (19, 0), (0, 12), (19, 0), (0, 12), (19, 0), (0, 12), (19, 0), (0, 12), (18, 0), (2, 256), (14, 0), (0, 16), (11, 0), (0, 31), (0, 31), (3, 64), (3, 64), (0, 1984), (0, 384), (0, 384), (10, 0), (0, 186), (0, 31), (0, 31), (17, 0), (5, 20), (3, 20), (3, 20), (3, 20), (3, 20), (3, 20), (3, 20), (3, 20), (3, 20), (3, 20), (3, 20), (3, 20), (3, 20), (3, 20), (3, 20), (3, 20), (3, 20), (3, 20), (3, 20), (3, 20), (3, 20), (3, 20), (0, 20), (16, 0), (4, 22), (5, 20), (3, 21), (3, 21), (3, 21), (3, 21), (3, 21), (3, 21), (3, 21), (3, 21), (3, 21), (3, 21), (3, 21), (3, 21), (3, 21), (3, 21), (3, 21), (3, 21), (3, 21), (3, 21), (3, 21), (3, 21), (5, 11), (3, 22), (3, 22), (3, 22), (3, 22), (3, 22), (3, 22), (3, 22), (3, 22), (3, 22), (3, 22), (3, 22), (3, 11), (3, 11), (3, 11), (19, 0), (0, 12), (19, 0), (0, 12), (19, 0), (0, 12), (19, 0), (0, 12), (19, 0), (0, 12), (19, 0), (0, 12), (19, 0), (0, 12), (19, 0), (0, 12), (19, 0), (0, 12), (19, 0), (0, 12), (19, 0), (0, 12), (19, 0), (0, 12), (19, 0), (0, 12), (19, 0), (0, 12), (19, 0), (0, 12), (19, 0), (0, 12), (19, 0), (0, 12), (19, 0), (0, 12), (19, 0), (0, 12), (19, 0), (0, 12), (19, 0), (0, 12), (19, 0), (0, 12), (21, 0), (0, 16), (0, 16), (0, 16), (1, 16), (0, 12), (0, 36), (0, 36), (0, 216), (0, 6), (0, 6), (0, 5), (0, 32), (0, 32), (0, 32), (0, 32), (0, 32), (0, 32), (0, 512), (0, 32), (0, 32), (3, 2048), (0, 32768), (3, 400), (3, 20), (0, 20), (0, 20), (1, 20), (3, 40), (3, 14), (3, 308), (3, 420), (3, 216), (3, 14), (2, 400), (0, 192), (0, 32), (0, 32), (0, 24)]
def R0l : List (List (Option Nat)) := [[], [], [], [], [], [], [], [], [some 9, some 10, some 16, some 39, some 41, some 49, some 53, some 77, some 28, some 37], [], [some 11, some 12, some 13, some 14, some 15], [], [], [], [], [], [none, some 17, some 18, some 19, some 20, none, some 21, some 22, some 23, some 24, some 25, none, some 26, none, some 27], [], [], [], [], [], [], [], [], [], [], [], [some 29, some 31, some 33, some 35], [some 30], [], [some 32], [], [some 34], [], [some 36], [], [some 38], [], [some 16, some 10, some 40], [], [some 16, some 39, some 9, some 42, some 43, some 44, some 45, some 46, some 47, some 48], [], [], [], [], [], [], [], [some 16, some 10, some 39, some 41, some 50, some 51, some 52], [], [], [], [some 16, some 39, some 41, some 9, none, none, none, some 54, some 75, some 76], [some 55, some 56, some 57, some 58, some 59, some 60, some 61, some 62, some 63, some 64, some 65, some 66, some 67, some 68, some 69, some 70, some 71, some 72, some 73, some 74], [], [], [], [], [], [], [], [], [], [], [], [], [], [], [], [], [], [], [], [], [], [], [some 53, some 78, some 79, some 100, some 112, some 113, some 114], [some 115, some 117, some 119, some 121, some 123, some 125, some 127, some 129, some 131, some 133, some 135, some 137, some 139, some 141, some 143, some 145, some 147, some 149, some 151, some 153, some 155, some 157], [some 80, some 81, some 82, some 83, some 84, some 85, some 86, some 87, some 88, some 89, some 90, some 91, some 92, some 93, some 94, some 95, some 96, some 97, some 98, some 99], [], [], [], [], [], [], [], [], [], [], [], [], [], [], [], [], [], [], [], [], [some 101, some 102, some 103, some 104, some 105, some 106, some 107, some 108, some 109, some 110, some 111], [], [], [], [], [], [], [], [], [], [], [], [], [], [], [some 116], [], [some 118], [], [some 120], [], [some 122], [], [some 124], [], [some 126], [], [some 128], [], [some 130], [], [some 132], [], [some 134], [], [some 136], [], [some 138], [], [some 140], [], [some 142], [], [some 144], [], [some 146], [], [some 148], [], [some 150], [], [some 152], [], [some 154], [], [some 156], [], [some 158], [], [none, some 160, some 161, some 162, some 163, some 164, some 165, some 166, some 167, some 168, some 169, some 170, none, none, none, some 171, some 172, some 173, some 174, some 175, some 176, none, some 177, some 178, some 179, some 180, some 181, some 182, some 183, some 184, some 185, some 186, none, none, none, some 187, none, some 188, some 189, some 190, some 191, some 192, none, some 193, some 194, some 195, some 196]]
def R0 (k i : Nat) : Option Nat := (R0l.getD k []).getD i none
def aRf (R : Nat → Nat → Option Nat) : Prop := ∀ k i r, R0 k i = some r → R k i = some r
theorem s8 {I : Nat → Nat → Int32} {L : Nat → Nat → Int64} {R : Nat → Nat → Option Nat} : aSh (sh0, I, L, R) 8 = some (10 + 10, 0) := rfl
theorem s9 {I : Nat → Nat → Int32} {L : Nat → Nat → Int64} {R : Nat → Nat → Option Nat} : aSh (sh0, I, L, R) 9 = some (0, 5) := rfl
theorem s10 {I : Nat → Nat → Int32} {L : Nat → Nat → Int64} {R : Nat → Nat → Option Nat} : aSh (sh0, I, L, R) 10 = some (10 + 3, 0) := rfl
theorem s11 {I : Nat → Nat → Int32} {L : Nat → Nat → Int64} {R : Nat → Nat → Option Nat} : aSh (sh0, I, L, R) 11 = some (0, 37) := rfl
theorem s12 {I : Nat → Nat → Int32} {L : Nat → Nat → Int64} {R : Nat → Nat → Option Nat} : aSh (sh0, I, L, R) 12 = some (0, 37) := rfl
theorem s13 {I : Nat → Nat → Int32} {L : Nat → Nat → Int64} {R : Nat → Nat → Option Nat} : aSh (sh0, I, L, R) 13 = some (0, 37) := rfl
theorem s14 {I : Nat → Nat → Int32} {L : Nat → Nat → Int64} {R : Nat → Nat → Option Nat} : aSh (sh0, I, L, R) 14 = some (0, 222) := rfl
theorem s15 {I : Nat → Nat → Int32} {L : Nat → Nat → Int64} {R : Nat → Nat → Option Nat} : aSh (sh0, I, L, R) 15 = some (0, 12) := rfl
theorem s16 {I : Nat → Nat → Int32} {L : Nat → Nat → Int64} {R : Nat → Nat → Option Nat} : aSh (sh0, I, L, R) 16 = some (10 + 5, 0) := rfl
theorem s17 {I : Nat → Nat → Int32} {L : Nat → Nat → Int64} {R : Nat → Nat → Option Nat} : aSh (sh0, I, L, R) 17 = some (0, 16) := rfl
theorem s18 {I : Nat → Nat → Int32} {L : Nat → Nat → Int64} {R : Nat → Nat → Option Nat} : aSh (sh0, I, L, R) 18 = some (0, 16) := rfl
theorem s19 {I : Nat → Nat → Int32} {L : Nat → Nat → Int64} {R : Nat → Nat → Option Nat} : aSh (sh0, I, L, R) 19 = some (0, 16) := rfl
theorem s20 {I : Nat → Nat → Int32} {L : Nat → Nat → Int64} {R : Nat → Nat → Option Nat} : aSh (sh0, I, L, R) 20 = some (1, 16) := rfl
theorem s21 {I : Nat → Nat → Int32} {L : Nat → Nat → Int64} {R : Nat → Nat → Option Nat} : aSh (sh0, I, L, R) 21 = some (0, 31) := rfl
theorem s22 {I : Nat → Nat → Int32} {L : Nat → Nat → Int64} {R : Nat → Nat → Option Nat} : aSh (sh0, I, L, R) 22 = some (0, 31) := rfl
theorem s23 {I : Nat → Nat → Int32} {L : Nat → Nat → Int64} {R : Nat → Nat → Option Nat} : aSh (sh0, I, L, R) 23 = some (0, 31) := rfl
theorem s24 {I : Nat → Nat → Int32} {L : Nat → Nat → Int64} {R : Nat → Nat → Option Nat} : aSh (sh0, I, L, R) 24 = some (0, 31) := rfl
theorem s25 {I : Nat → Nat → Int32} {L : Nat → Nat → Int64} {R : Nat → Nat → Option Nat} : aSh (sh0, I, L, R) 25 = some (0, 186) := rfl
theorem s26 {I : Nat → Nat → Int32} {L : Nat → Nat → Int64} {R : Nat → Nat → Option Nat} : aSh (sh0, I, L, R) 26 = some (0, 496) := rfl
theorem s27 {I : Nat → Nat → Int32} {L : Nat → Nat → Int64} {R : Nat → Nat → Option Nat} : aSh (sh0, I, L, R) 27 = some (0, 6) := rfl
theorem s28 {I : Nat → Nat → Int32} {L : Nat → Nat → Int64} {R : Nat → Nat → Option Nat} : aSh (sh0, I, L, R) 28 = some (10 + 2, 0) := rfl
theorem s29 {I : Nat → Nat → Int32} {L : Nat → Nat → Int64} {R : Nat → Nat → Option Nat} : aSh (sh0, I, L, R) 29 = some (10 + 9, 0) := rfl
theorem s30 {I : Nat → Nat → Int32} {L : Nat → Nat → Int64} {R : Nat → Nat → Option Nat} : aSh (sh0, I, L, R) 30 = some (0, 12) := rfl
theorem s31 {I : Nat → Nat → Int32} {L : Nat → Nat → Int64} {R : Nat → Nat → Option Nat} : aSh (sh0, I, L, R) 31 = some (10 + 9, 0) := rfl
theorem s32 {I : Nat → Nat → Int32} {L : Nat → Nat → Int64} {R : Nat → Nat → Option Nat} : aSh (sh0, I, L, R) 32 = some (0, 12) := rfl
theorem s33 {I : Nat → Nat → Int32} {L : Nat → Nat → Int64} {R : Nat → Nat → Option Nat} : aSh (sh0, I, L, R) 33 = some (10 + 9, 0) := rfl
theorem s34 {I : Nat → Nat → Int32} {L : Nat → Nat → Int64} {R : Nat → Nat → Option Nat} : aSh (sh0, I, L, R) 34 = some (0, 12) := rfl
theorem s35 {I : Nat → Nat → Int32} {L : Nat → Nat → Int64} {R : Nat → Nat → Option Nat} : aSh (sh0, I, L, R) 35 = some (10 + 9, 0) := rfl
theorem s36 {I : Nat → Nat → Int32} {L : Nat → Nat → Int64} {R : Nat → Nat → Option Nat} : aSh (sh0, I, L, R) 36 = some (0, 12) := rfl
theorem s37 {I : Nat → Nat → Int32} {L : Nat → Nat → Int64} {R : Nat → Nat → Option Nat} : aSh (sh0, I, L, R) 37 = some (10 + 8, 0) := rfl
theorem s38 {I : Nat → Nat → Int32} {L : Nat → Nat → Int64} {R : Nat → Nat → Option Nat} : aSh (sh0, I, L, R) 38 = some (2, 256) := rfl
theorem s39 {I : Nat → Nat → Int32} {L : Nat → Nat → Int64} {R : Nat → Nat → Option Nat} : aSh (sh0, I, L, R) 39 = some (10 + 4, 0) := rfl
theorem s40 {I : Nat → Nat → Int32} {L : Nat → Nat → Int64} {R : Nat → Nat → Option Nat} : aSh (sh0, I, L, R) 40 = some (0, 16) := rfl
theorem s41 {I : Nat → Nat → Int32} {L : Nat → Nat → Int64} {R : Nat → Nat → Option Nat} : aSh (sh0, I, L, R) 41 = some (10 + 1, 0) := rfl
theorem s42 {I : Nat → Nat → Int32} {L : Nat → Nat → Int64} {R : Nat → Nat → Option Nat} : aSh (sh0, I, L, R) 42 = some (0, 31) := rfl
theorem s43 {I : Nat → Nat → Int32} {L : Nat → Nat → Int64} {R : Nat → Nat → Option Nat} : aSh (sh0, I, L, R) 43 = some (0, 31) := rfl
theorem s44 {I : Nat → Nat → Int32} {L : Nat → Nat → Int64} {R : Nat → Nat → Option Nat} : aSh (sh0, I, L, R) 44 = some (3, 64) := rfl
theorem s45 {I : Nat → Nat → Int32} {L : Nat → Nat → Int64} {R : Nat → Nat → Option Nat} : aSh (sh0, I, L, R) 45 = some (3, 64) := rfl
theorem s46 {I : Nat → Nat → Int32} {L : Nat → Nat → Int64} {R : Nat → Nat → Option Nat} : aSh (sh0, I, L, R) 46 = some (0, 1984) := rfl
theorem s47 {I : Nat → Nat → Int32} {L : Nat → Nat → Int64} {R : Nat → Nat → Option Nat} : aSh (sh0, I, L, R) 47 = some (0, 384) := rfl
theorem s48 {I : Nat → Nat → Int32} {L : Nat → Nat → Int64} {R : Nat → Nat → Option Nat} : aSh (sh0, I, L, R) 48 = some (0, 384) := rfl
theorem s49 {I : Nat → Nat → Int32} {L : Nat → Nat → Int64} {R : Nat → Nat → Option Nat} : aSh (sh0, I, L, R) 49 = some (10 + 0, 0) := rfl
theorem s50 {I : Nat → Nat → Int32} {L : Nat → Nat → Int64} {R : Nat → Nat → Option Nat} : aSh (sh0, I, L, R) 50 = some (0, 186) := rfl
theorem s51 {I : Nat → Nat → Int32} {L : Nat → Nat → Int64} {R : Nat → Nat → Option Nat} : aSh (sh0, I, L, R) 51 = some (0, 31) := rfl
theorem s52 {I : Nat → Nat → Int32} {L : Nat → Nat → Int64} {R : Nat → Nat → Option Nat} : aSh (sh0, I, L, R) 52 = some (0, 31) := rfl
theorem s53 {I : Nat → Nat → Int32} {L : Nat → Nat → Int64} {R : Nat → Nat → Option Nat} : aSh (sh0, I, L, R) 53 = some (10 + 7, 0) := rfl
theorem s54 {I : Nat → Nat → Int32} {L : Nat → Nat → Int64} {R : Nat → Nat → Option Nat} : aSh (sh0, I, L, R) 54 = some (5, 20) := rfl
theorem s55 {I : Nat → Nat → Int32} {L : Nat → Nat → Int64} {R : Nat → Nat → Option Nat} : aSh (sh0, I, L, R) 55 = some (3, 20) := rfl
theorem s56 {I : Nat → Nat → Int32} {L : Nat → Nat → Int64} {R : Nat → Nat → Option Nat} : aSh (sh0, I, L, R) 56 = some (3, 20) := rfl
theorem s57 {I : Nat → Nat → Int32} {L : Nat → Nat → Int64} {R : Nat → Nat → Option Nat} : aSh (sh0, I, L, R) 57 = some (3, 20) := rfl
theorem s58 {I : Nat → Nat → Int32} {L : Nat → Nat → Int64} {R : Nat → Nat → Option Nat} : aSh (sh0, I, L, R) 58 = some (3, 20) := rfl
theorem s59 {I : Nat → Nat → Int32} {L : Nat → Nat → Int64} {R : Nat → Nat → Option Nat} : aSh (sh0, I, L, R) 59 = some (3, 20) := rfl
theorem s60 {I : Nat → Nat → Int32} {L : Nat → Nat → Int64} {R : Nat → Nat → Option Nat} : aSh (sh0, I, L, R) 60 = some (3, 20) := rfl
theorem s61 {I : Nat → Nat → Int32} {L : Nat → Nat → Int64} {R : Nat → Nat → Option Nat} : aSh (sh0, I, L, R) 61 = some (3, 20) := rfl
theorem s62 {I : Nat → Nat → Int32} {L : Nat → Nat → Int64} {R : Nat → Nat → Option Nat} : aSh (sh0, I, L, R) 62 = some (3, 20) := rfl
theorem s63 {I : Nat → Nat → Int32} {L : Nat → Nat → Int64} {R : Nat → Nat → Option Nat} : aSh (sh0, I, L, R) 63 = some (3, 20) := rfl
theorem s64 {I : Nat → Nat → Int32} {L : Nat → Nat → Int64} {R : Nat → Nat → Option Nat} : aSh (sh0, I, L, R) 64 = some (3, 20) := rfl
theorem s65 {I : Nat → Nat → Int32} {L : Nat → Nat → Int64} {R : Nat → Nat → Option Nat} : aSh (sh0, I, L, R) 65 = some (3, 20) := rfl
theorem s66 {I : Nat → Nat → Int32} {L : Nat → Nat → Int64} {R : Nat → Nat → Option Nat} : aSh (sh0, I, L, R) 66 = some (3, 20) := rfl
theorem s67 {I : Nat → Nat → Int32} {L : Nat → Nat → Int64} {R : Nat → Nat → Option Nat} : aSh (sh0, I, L, R) 67 = some (3, 20) := rfl
theorem s68 {I : Nat → Nat → Int32} {L : Nat → Nat → Int64} {R : Nat → Nat → Option Nat} : aSh (sh0, I, L, R) 68 = some (3, 20) := rfl
theorem s69 {I : Nat → Nat → Int32} {L : Nat → Nat → Int64} {R : Nat → Nat → Option Nat} : aSh (sh0, I, L, R) 69 = some (3, 20) := rfl
theorem s70 {I : Nat → Nat → Int32} {L : Nat → Nat → Int64} {R : Nat → Nat → Option Nat} : aSh (sh0, I, L, R) 70 = some (3, 20) := rfl
theorem s71 {I : Nat → Nat → Int32} {L : Nat → Nat → Int64} {R : Nat → Nat → Option Nat} : aSh (sh0, I, L, R) 71 = some (3, 20) := rfl
theorem s72 {I : Nat → Nat → Int32} {L : Nat → Nat → Int64} {R : Nat → Nat → Option Nat} : aSh (sh0, I, L, R) 72 = some (3, 20) := rfl
theorem s73 {I : Nat → Nat → Int32} {L : Nat → Nat → Int64} {R : Nat → Nat → Option Nat} : aSh (sh0, I, L, R) 73 = some (3, 20) := rfl
theorem s74 {I : Nat → Nat → Int32} {L : Nat → Nat → Int64} {R : Nat → Nat → Option Nat} : aSh (sh0, I, L, R) 74 = some (3, 20) := rfl
theorem s75 {I : Nat → Nat → Int32} {L : Nat → Nat → Int64} {R : Nat → Nat → Option Nat} : aSh (sh0, I, L, R) 75 = some (3, 20) := rfl
theorem s76 {I : Nat → Nat → Int32} {L : Nat → Nat → Int64} {R : Nat → Nat → Option Nat} : aSh (sh0, I, L, R) 76 = some (0, 20) := rfl
theorem s77 {I : Nat → Nat → Int32} {L : Nat → Nat → Int64} {R : Nat → Nat → Option Nat} : aSh (sh0, I, L, R) 77 = some (10 + 6, 0) := rfl
theorem s78 {I : Nat → Nat → Int32} {L : Nat → Nat → Int64} {R : Nat → Nat → Option Nat} : aSh (sh0, I, L, R) 78 = some (4, 22) := rfl
theorem s79 {I : Nat → Nat → Int32} {L : Nat → Nat → Int64} {R : Nat → Nat → Option Nat} : aSh (sh0, I, L, R) 79 = some (5, 20) := rfl
theorem s80 {I : Nat → Nat → Int32} {L : Nat → Nat → Int64} {R : Nat → Nat → Option Nat} : aSh (sh0, I, L, R) 80 = some (3, 21) := rfl
theorem s81 {I : Nat → Nat → Int32} {L : Nat → Nat → Int64} {R : Nat → Nat → Option Nat} : aSh (sh0, I, L, R) 81 = some (3, 21) := rfl
theorem s82 {I : Nat → Nat → Int32} {L : Nat → Nat → Int64} {R : Nat → Nat → Option Nat} : aSh (sh0, I, L, R) 82 = some (3, 21) := rfl
theorem s83 {I : Nat → Nat → Int32} {L : Nat → Nat → Int64} {R : Nat → Nat → Option Nat} : aSh (sh0, I, L, R) 83 = some (3, 21) := rfl
theorem s84 {I : Nat → Nat → Int32} {L : Nat → Nat → Int64} {R : Nat → Nat → Option Nat} : aSh (sh0, I, L, R) 84 = some (3, 21) := rfl
theorem s85 {I : Nat → Nat → Int32} {L : Nat → Nat → Int64} {R : Nat → Nat → Option Nat} : aSh (sh0, I, L, R) 85 = some (3, 21) := rfl
theorem s86 {I : Nat → Nat → Int32} {L : Nat → Nat → Int64} {R : Nat → Nat → Option Nat} : aSh (sh0, I, L, R) 86 = some (3, 21) := rfl
theorem s87 {I : Nat → Nat → Int32} {L : Nat → Nat → Int64} {R : Nat → Nat → Option Nat} : aSh (sh0, I, L, R) 87 = some (3, 21) := rfl
theorem s88 {I : Nat → Nat → Int32} {L : Nat → Nat → Int64} {R : Nat → Nat → Option Nat} : aSh (sh0, I, L, R) 88 = some (3, 21) := rfl
theorem s89 {I : Nat → Nat → Int32} {L : Nat → Nat → Int64} {R : Nat → Nat → Option Nat} : aSh (sh0, I, L, R) 89 = some (3, 21) := rfl
theorem s90 {I : Nat → Nat → Int32} {L : Nat → Nat → Int64} {R : Nat → Nat → Option Nat} : aSh (sh0, I, L, R) 90 = some (3, 21) := rfl
theorem s91 {I : Nat → Nat → Int32} {L : Nat → Nat → Int64} {R : Nat → Nat → Option Nat} : aSh (sh0, I, L, R) 91 = some (3, 21) := rfl
theorem s92 {I : Nat → Nat → Int32} {L : Nat → Nat → Int64} {R : Nat → Nat → Option Nat} : aSh (sh0, I, L, R) 92 = some (3, 21) := rfl
theorem s93 {I : Nat → Nat → Int32} {L : Nat → Nat → Int64} {R : Nat → Nat → Option Nat} : aSh (sh0, I, L, R) 93 = some (3, 21) := rfl
theorem s94 {I : Nat → Nat → Int32} {L : Nat → Nat → Int64} {R : Nat → Nat → Option Nat} : aSh (sh0, I, L, R) 94 = some (3, 21) := rfl
theorem s95 {I : Nat → Nat → Int32} {L : Nat → Nat → Int64} {R : Nat → Nat → Option Nat} : aSh (sh0, I, L, R) 95 = some (3, 21) := rfl
theorem s96 {I : Nat → Nat → Int32} {L : Nat → Nat → Int64} {R : Nat → Nat → Option Nat} : aSh (sh0, I, L, R) 96 = some (3, 21) := rfl
theorem s97 {I : Nat → Nat → Int32} {L : Nat → Nat → Int64} {R : Nat → Nat → Option Nat} : aSh (sh0, I, L, R) 97 = some (3, 21) := rfl
theorem s98 {I : Nat → Nat → Int32} {L : Nat → Nat → Int64} {R : Nat → Nat → Option Nat} : aSh (sh0, I, L, R) 98 = some (3, 21) := rfl
theorem s99 {I : Nat → Nat → Int32} {L : Nat → Nat → Int64} {R : Nat → Nat → Option Nat} : aSh (sh0, I, L, R) 99 = some (3, 21) := rfl
theorem s100 {I : Nat → Nat → Int32} {L : Nat → Nat → Int64} {R : Nat → Nat → Option Nat} : aSh (sh0, I, L, R) 100 = some (5, 11) := rfl
theorem s101 {I : Nat → Nat → Int32} {L : Nat → Nat → Int64} {R : Nat → Nat → Option Nat} : aSh (sh0, I, L, R) 101 = some (3, 22) := rfl
theorem s102 {I : Nat → Nat → Int32} {L : Nat → Nat → Int64} {R : Nat → Nat → Option Nat} : aSh (sh0, I, L, R) 102 = some (3, 22) := rfl
theorem s103 {I : Nat → Nat → Int32} {L : Nat → Nat → Int64} {R : Nat → Nat → Option Nat} : aSh (sh0, I, L, R) 103 = some (3, 22) := rfl
theorem s104 {I : Nat → Nat → Int32} {L : Nat → Nat → Int64} {R : Nat → Nat → Option Nat} : aSh (sh0, I, L, R) 104 = some (3, 22) := rfl
theorem s105 {I : Nat → Nat → Int32} {L : Nat → Nat → Int64} {R : Nat → Nat → Option Nat} : aSh (sh0, I, L, R) 105 = some (3, 22) := rfl
theorem s106 {I : Nat → Nat → Int32} {L : Nat → Nat → Int64} {R : Nat → Nat → Option Nat} : aSh (sh0, I, L, R) 106 = some (3, 22) := rfl
theorem s107 {I : Nat → Nat → Int32} {L : Nat → Nat → Int64} {R : Nat → Nat → Option Nat} : aSh (sh0, I, L, R) 107 = some (3, 22) := rfl
theorem s108 {I : Nat → Nat → Int32} {L : Nat → Nat → Int64} {R : Nat → Nat → Option Nat} : aSh (sh0, I, L, R) 108 = some (3, 22) := rfl
theorem s109 {I : Nat → Nat → Int32} {L : Nat → Nat → Int64} {R : Nat → Nat → Option Nat} : aSh (sh0, I, L, R) 109 = some (3, 22) := rfl
theorem s110 {I : Nat → Nat → Int32} {L : Nat → Nat → Int64} {R : Nat → Nat → Option Nat} : aSh (sh0, I, L, R) 110 = some (3, 22) := rfl
theorem s111 {I : Nat → Nat → Int32} {L : Nat → Nat → Int64} {R : Nat → Nat → Option Nat} : aSh (sh0, I, L, R) 111 = some (3, 22) := rfl
theorem s112 {I : Nat → Nat → Int32} {L : Nat → Nat → Int64} {R : Nat → Nat → Option Nat} : aSh (sh0, I, L, R) 112 = some (3, 11) := rfl
theorem s113 {I : Nat → Nat → Int32} {L : Nat → Nat → Int64} {R : Nat → Nat → Option Nat} : aSh (sh0, I, L, R) 113 = some (3, 11) := rfl
theorem s114 {I : Nat → Nat → Int32} {L : Nat → Nat → Int64} {R : Nat → Nat → Option Nat} : aSh (sh0, I, L, R) 114 = some (3, 11) := rfl
theorem s115 {I : Nat → Nat → Int32} {L : Nat → Nat → Int64} {R : Nat → Nat → Option Nat} : aSh (sh0, I, L, R) 115 = some (10 + 9, 0) := rfl
theorem s116 {I : Nat → Nat → Int32} {L : Nat → Nat → Int64} {R : Nat → Nat → Option Nat} : aSh (sh0, I, L, R) 116 = some (0, 12) := rfl
theorem s117 {I : Nat → Nat → Int32} {L : Nat → Nat → Int64} {R : Nat → Nat → Option Nat} : aSh (sh0, I, L, R) 117 = some (10 + 9, 0) := rfl
theorem s118 {I : Nat → Nat → Int32} {L : Nat → Nat → Int64} {R : Nat → Nat → Option Nat} : aSh (sh0, I, L, R) 118 = some (0, 12) := rfl
theorem s119 {I : Nat → Nat → Int32} {L : Nat → Nat → Int64} {R : Nat → Nat → Option Nat} : aSh (sh0, I, L, R) 119 = some (10 + 9, 0) := rfl
theorem s120 {I : Nat → Nat → Int32} {L : Nat → Nat → Int64} {R : Nat → Nat → Option Nat} : aSh (sh0, I, L, R) 120 = some (0, 12) := rfl
theorem s121 {I : Nat → Nat → Int32} {L : Nat → Nat → Int64} {R : Nat → Nat → Option Nat} : aSh (sh0, I, L, R) 121 = some (10 + 9, 0) := rfl
theorem s122 {I : Nat → Nat → Int32} {L : Nat → Nat → Int64} {R : Nat → Nat → Option Nat} : aSh (sh0, I, L, R) 122 = some (0, 12) := rfl
theorem s123 {I : Nat → Nat → Int32} {L : Nat → Nat → Int64} {R : Nat → Nat → Option Nat} : aSh (sh0, I, L, R) 123 = some (10 + 9, 0) := rfl
theorem s124 {I : Nat → Nat → Int32} {L : Nat → Nat → Int64} {R : Nat → Nat → Option Nat} : aSh (sh0, I, L, R) 124 = some (0, 12) := rfl
theorem s125 {I : Nat → Nat → Int32} {L : Nat → Nat → Int64} {R : Nat → Nat → Option Nat} : aSh (sh0, I, L, R) 125 = some (10 + 9, 0) := rfl
theorem s126 {I : Nat → Nat → Int32} {L : Nat → Nat → Int64} {R : Nat → Nat → Option Nat} : aSh (sh0, I, L, R) 126 = some (0, 12) := rfl
theorem s127 {I : Nat → Nat → Int32} {L : Nat → Nat → Int64} {R : Nat → Nat → Option Nat} : aSh (sh0, I, L, R) 127 = some (10 + 9, 0) := rfl
theorem s128 {I : Nat → Nat → Int32} {L : Nat → Nat → Int64} {R : Nat → Nat → Option Nat} : aSh (sh0, I, L, R) 128 = some (0, 12) := rfl
theorem s129 {I : Nat → Nat → Int32} {L : Nat → Nat → Int64} {R : Nat → Nat → Option Nat} : aSh (sh0, I, L, R) 129 = some (10 + 9, 0) := rfl
theorem s130 {I : Nat → Nat → Int32} {L : Nat → Nat → Int64} {R : Nat → Nat → Option Nat} : aSh (sh0, I, L, R) 130 = some (0, 12) := rfl
theorem s131 {I : Nat → Nat → Int32} {L : Nat → Nat → Int64} {R : Nat → Nat → Option Nat} : aSh (sh0, I, L, R) 131 = some (10 + 9, 0) := rfl
theorem s132 {I : Nat → Nat → Int32} {L : Nat → Nat → Int64} {R : Nat → Nat → Option Nat} : aSh (sh0, I, L, R) 132 = some (0, 12) := rfl
theorem s133 {I : Nat → Nat → Int32} {L : Nat → Nat → Int64} {R : Nat → Nat → Option Nat} : aSh (sh0, I, L, R) 133 = some (10 + 9, 0) := rfl
theorem s134 {I : Nat → Nat → Int32} {L : Nat → Nat → Int64} {R : Nat → Nat → Option Nat} : aSh (sh0, I, L, R) 134 = some (0, 12) := rfl
theorem s135 {I : Nat → Nat → Int32} {L : Nat → Nat → Int64} {R : Nat → Nat → Option Nat} : aSh (sh0, I, L, R) 135 = some (10 + 9, 0) := rfl
theorem s136 {I : Nat → Nat → Int32} {L : Nat → Nat → Int64} {R : Nat → Nat → Option Nat} : aSh (sh0, I, L, R) 136 = some (0, 12) := rfl
theorem s137 {I : Nat → Nat → Int32} {L : Nat → Nat → Int64} {R : Nat → Nat → Option Nat} : aSh (sh0, I, L, R) 137 = some (10 + 9, 0) := rfl
theorem s138 {I : Nat → Nat → Int32} {L : Nat → Nat → Int64} {R : Nat → Nat → Option Nat} : aSh (sh0, I, L, R) 138 = some (0, 12) := rfl
theorem s139 {I : Nat → Nat → Int32} {L : Nat → Nat → Int64} {R : Nat → Nat → Option Nat} : aSh (sh0, I, L, R) 139 = some (10 + 9, 0) := rfl
theorem s140 {I : Nat → Nat → Int32} {L : Nat → Nat → Int64} {R : Nat → Nat → Option Nat} : aSh (sh0, I, L, R) 140 = some (0, 12) := rfl
theorem s141 {I : Nat → Nat → Int32} {L : Nat → Nat → Int64} {R : Nat → Nat → Option Nat} : aSh (sh0, I, L, R) 141 = some (10 + 9, 0) := rfl
theorem s142 {I : Nat → Nat → Int32} {L : Nat → Nat → Int64} {R : Nat → Nat → Option Nat} : aSh (sh0, I, L, R) 142 = some (0, 12) := rfl
theorem s143 {I : Nat → Nat → Int32} {L : Nat → Nat → Int64} {R : Nat → Nat → Option Nat} : aSh (sh0, I, L, R) 143 = some (10 + 9, 0) := rfl
theorem s144 {I : Nat → Nat → Int32} {L : Nat → Nat → Int64} {R : Nat → Nat → Option Nat} : aSh (sh0, I, L, R) 144 = some (0, 12) := rfl
theorem s145 {I : Nat → Nat → Int32} {L : Nat → Nat → Int64} {R : Nat → Nat → Option Nat} : aSh (sh0, I, L, R) 145 = some (10 + 9, 0) := rfl
theorem s146 {I : Nat → Nat → Int32} {L : Nat → Nat → Int64} {R : Nat → Nat → Option Nat} : aSh (sh0, I, L, R) 146 = some (0, 12) := rfl
theorem s147 {I : Nat → Nat → Int32} {L : Nat → Nat → Int64} {R : Nat → Nat → Option Nat} : aSh (sh0, I, L, R) 147 = some (10 + 9, 0) := rfl
theorem s148 {I : Nat → Nat → Int32} {L : Nat → Nat → Int64} {R : Nat → Nat → Option Nat} : aSh (sh0, I, L, R) 148 = some (0, 12) := rfl
theorem s149 {I : Nat → Nat → Int32} {L : Nat → Nat → Int64} {R : Nat → Nat → Option Nat} : aSh (sh0, I, L, R) 149 = some (10 + 9, 0) := rfl
theorem s150 {I : Nat → Nat → Int32} {L : Nat → Nat → Int64} {R : Nat → Nat → Option Nat} : aSh (sh0, I, L, R) 150 = some (0, 12) := rfl
theorem s151 {I : Nat → Nat → Int32} {L : Nat → Nat → Int64} {R : Nat → Nat → Option Nat} : aSh (sh0, I, L, R) 151 = some (10 + 9, 0) := rfl
theorem s152 {I : Nat → Nat → Int32} {L : Nat → Nat → Int64} {R : Nat → Nat → Option Nat} : aSh (sh0, I, L, R) 152 = some (0, 12) := rfl
theorem s153 {I : Nat → Nat → Int32} {L : Nat → Nat → Int64} {R : Nat → Nat → Option Nat} : aSh (sh0, I, L, R) 153 = some (10 + 9, 0) := rfl
theorem s154 {I : Nat → Nat → Int32} {L : Nat → Nat → Int64} {R : Nat → Nat → Option Nat} : aSh (sh0, I, L, R) 154 = some (0, 12) := rfl
theorem s155 {I : Nat → Nat → Int32} {L : Nat → Nat → Int64} {R : Nat → Nat → Option Nat} : aSh (sh0, I, L, R) 155 = some (10 + 9, 0) := rfl
theorem s156 {I : Nat → Nat → Int32} {L : Nat → Nat → Int64} {R : Nat → Nat → Option Nat} : aSh (sh0, I, L, R) 156 = some (0, 12) := rfl
theorem s157 {I : Nat → Nat → Int32} {L : Nat → Nat → Int64} {R : Nat → Nat → Option Nat} : aSh (sh0, I, L, R) 157 = some (10 + 9, 0) := rfl
theorem s158 {I : Nat → Nat → Int32} {L : Nat → Nat → Int64} {R : Nat → Nat → Option Nat} : aSh (sh0, I, L, R) 158 = some (0, 12) := rfl
theorem s159 {I : Nat → Nat → Int32} {L : Nat → Nat → Int64} {R : Nat → Nat → Option Nat} : aSh (sh0, I, L, R) 159 = some (10 + 11, 0) := rfl
theorem s160 {I : Nat → Nat → Int32} {L : Nat → Nat → Int64} {R : Nat → Nat → Option Nat} : aSh (sh0, I, L, R) 160 = some (0, 16) := rfl
theorem s161 {I : Nat → Nat → Int32} {L : Nat → Nat → Int64} {R : Nat → Nat → Option Nat} : aSh (sh0, I, L, R) 161 = some (0, 16) := rfl
theorem s162 {I : Nat → Nat → Int32} {L : Nat → Nat → Int64} {R : Nat → Nat → Option Nat} : aSh (sh0, I, L, R) 162 = some (0, 16) := rfl
theorem s163 {I : Nat → Nat → Int32} {L : Nat → Nat → Int64} {R : Nat → Nat → Option Nat} : aSh (sh0, I, L, R) 163 = some (1, 16) := rfl
theorem s164 {I : Nat → Nat → Int32} {L : Nat → Nat → Int64} {R : Nat → Nat → Option Nat} : aSh (sh0, I, L, R) 164 = some (0, 12) := rfl
theorem s165 {I : Nat → Nat → Int32} {L : Nat → Nat → Int64} {R : Nat → Nat → Option Nat} : aSh (sh0, I, L, R) 165 = some (0, 36) := rfl
theorem s166 {I : Nat → Nat → Int32} {L : Nat → Nat → Int64} {R : Nat → Nat → Option Nat} : aSh (sh0, I, L, R) 166 = some (0, 36) := rfl
theorem s167 {I : Nat → Nat → Int32} {L : Nat → Nat → Int64} {R : Nat → Nat → Option Nat} : aSh (sh0, I, L, R) 167 = some (0, 216) := rfl
theorem s168 {I : Nat → Nat → Int32} {L : Nat → Nat → Int64} {R : Nat → Nat → Option Nat} : aSh (sh0, I, L, R) 168 = some (0, 6) := rfl
theorem s169 {I : Nat → Nat → Int32} {L : Nat → Nat → Int64} {R : Nat → Nat → Option Nat} : aSh (sh0, I, L, R) 169 = some (0, 6) := rfl
theorem s170 {I : Nat → Nat → Int32} {L : Nat → Nat → Int64} {R : Nat → Nat → Option Nat} : aSh (sh0, I, L, R) 170 = some (0, 5) := rfl
theorem s171 {I : Nat → Nat → Int32} {L : Nat → Nat → Int64} {R : Nat → Nat → Option Nat} : aSh (sh0, I, L, R) 171 = some (0, 32) := rfl
theorem s172 {I : Nat → Nat → Int32} {L : Nat → Nat → Int64} {R : Nat → Nat → Option Nat} : aSh (sh0, I, L, R) 172 = some (0, 32) := rfl
theorem s173 {I : Nat → Nat → Int32} {L : Nat → Nat → Int64} {R : Nat → Nat → Option Nat} : aSh (sh0, I, L, R) 173 = some (0, 32) := rfl
theorem s174 {I : Nat → Nat → Int32} {L : Nat → Nat → Int64} {R : Nat → Nat → Option Nat} : aSh (sh0, I, L, R) 174 = some (0, 32) := rfl
theorem s175 {I : Nat → Nat → Int32} {L : Nat → Nat → Int64} {R : Nat → Nat → Option Nat} : aSh (sh0, I, L, R) 175 = some (0, 32) := rfl
theorem s176 {I : Nat → Nat → Int32} {L : Nat → Nat → Int64} {R : Nat → Nat → Option Nat} : aSh (sh0, I, L, R) 176 = some (0, 32) := rfl
theorem s177 {I : Nat → Nat → Int32} {L : Nat → Nat → Int64} {R : Nat → Nat → Option Nat} : aSh (sh0, I, L, R) 177 = some (0, 512) := rfl
theorem s178 {I : Nat → Nat → Int32} {L : Nat → Nat → Int64} {R : Nat → Nat → Option Nat} : aSh (sh0, I, L, R) 178 = some (0, 32) := rfl
theorem s179 {I : Nat → Nat → Int32} {L : Nat → Nat → Int64} {R : Nat → Nat → Option Nat} : aSh (sh0, I, L, R) 179 = some (0, 32) := rfl
theorem s180 {I : Nat → Nat → Int32} {L : Nat → Nat → Int64} {R : Nat → Nat → Option Nat} : aSh (sh0, I, L, R) 180 = some (3, 2048) := rfl
theorem s181 {I : Nat → Nat → Int32} {L : Nat → Nat → Int64} {R : Nat → Nat → Option Nat} : aSh (sh0, I, L, R) 181 = some (0, 32768) := rfl
theorem s182 {I : Nat → Nat → Int32} {L : Nat → Nat → Int64} {R : Nat → Nat → Option Nat} : aSh (sh0, I, L, R) 182 = some (3, 400) := rfl
theorem s183 {I : Nat → Nat → Int32} {L : Nat → Nat → Int64} {R : Nat → Nat → Option Nat} : aSh (sh0, I, L, R) 183 = some (3, 20) := rfl
theorem s184 {I : Nat → Nat → Int32} {L : Nat → Nat → Int64} {R : Nat → Nat → Option Nat} : aSh (sh0, I, L, R) 184 = some (0, 20) := rfl
theorem s185 {I : Nat → Nat → Int32} {L : Nat → Nat → Int64} {R : Nat → Nat → Option Nat} : aSh (sh0, I, L, R) 185 = some (0, 20) := rfl
theorem s186 {I : Nat → Nat → Int32} {L : Nat → Nat → Int64} {R : Nat → Nat → Option Nat} : aSh (sh0, I, L, R) 186 = some (1, 20) := rfl
theorem s187 {I : Nat → Nat → Int32} {L : Nat → Nat → Int64} {R : Nat → Nat → Option Nat} : aSh (sh0, I, L, R) 187 = some (3, 40) := rfl
theorem s188 {I : Nat → Nat → Int32} {L : Nat → Nat → Int64} {R : Nat → Nat → Option Nat} : aSh (sh0, I, L, R) 188 = some (3, 14) := rfl
theorem s189 {I : Nat → Nat → Int32} {L : Nat → Nat → Int64} {R : Nat → Nat → Option Nat} : aSh (sh0, I, L, R) 189 = some (3, 308) := rfl
theorem s190 {I : Nat → Nat → Int32} {L : Nat → Nat → Int64} {R : Nat → Nat → Option Nat} : aSh (sh0, I, L, R) 190 = some (3, 420) := rfl
theorem s191 {I : Nat → Nat → Int32} {L : Nat → Nat → Int64} {R : Nat → Nat → Option Nat} : aSh (sh0, I, L, R) 191 = some (3, 216) := rfl
theorem s192 {I : Nat → Nat → Int32} {L : Nat → Nat → Int64} {R : Nat → Nat → Option Nat} : aSh (sh0, I, L, R) 192 = some (3, 14) := rfl
theorem s193 {I : Nat → Nat → Int32} {L : Nat → Nat → Int64} {R : Nat → Nat → Option Nat} : aSh (sh0, I, L, R) 193 = some (2, 400) := rfl
theorem s194 {I : Nat → Nat → Int32} {L : Nat → Nat → Int64} {R : Nat → Nat → Option Nat} : aSh (sh0, I, L, R) 194 = some (0, 192) := rfl
theorem s195 {I : Nat → Nat → Int32} {L : Nat → Nat → Int64} {R : Nat → Nat → Option Nat} : aSh (sh0, I, L, R) 195 = some (0, 32) := rfl
theorem s196 {I : Nat → Nat → Int32} {L : Nat → Nat → Int64} {R : Nat → Nat → Option Nat} : aSh (sh0, I, L, R) 196 = some (0, 32) := rfl
theorem s197 {I : Nat → Nat → Int32} {L : Nat → Nat → Int64} {R : Nat → Nat → Option Nat} : aSh (sh0, I, L, R) 197 = some (0, 24) := rfl
theorem f8_0 {I : Nat → Nat → Int32} {L : Nat → Nat → Int64} {R : Nat → Nat → Option Nat} (hR : aRf R) : aVal (sh0, I, L, R) (aT 10 0) 8 0 = .ref 9 := by show va_rf (R 8 0) = _; rw [hR 8 0 9 rfl]; rfl
theorem f8_1 {I : Nat → Nat → Int32} {L : Nat → Nat → Int64} {R : Nat → Nat → Option Nat} (hR : aRf R) : aVal (sh0, I, L, R) (aT 10 1) 8 1 = .ref 10 := by show va_rf (R 8 1) = _; rw [hR 8 1 10 rfl]; rfl
theorem f8_2 {I : Nat → Nat → Int32} {L : Nat → Nat → Int64} {R : Nat → Nat → Option Nat} (hR : aRf R) : aVal (sh0, I, L, R) (aT 10 2) 8 2 = .ref 16 := by show va_rf (R 8 2) = _; rw [hR 8 2 16 rfl]; rfl
theorem f8_3 {I : Nat → Nat → Int32} {L : Nat → Nat → Int64} {R : Nat → Nat → Option Nat} (hR : aRf R) : aVal (sh0, I, L, R) (aT 10 3) 8 3 = .ref 39 := by show va_rf (R 8 3) = _; rw [hR 8 3 39 rfl]; rfl
theorem f8_4 {I : Nat → Nat → Int32} {L : Nat → Nat → Int64} {R : Nat → Nat → Option Nat} (hR : aRf R) : aVal (sh0, I, L, R) (aT 10 4) 8 4 = .ref 41 := by show va_rf (R 8 4) = _; rw [hR 8 4 41 rfl]; rfl
theorem f8_5 {I : Nat → Nat → Int32} {L : Nat → Nat → Int64} {R : Nat → Nat → Option Nat} (hR : aRf R) : aVal (sh0, I, L, R) (aT 10 5) 8 5 = .ref 49 := by show va_rf (R 8 5) = _; rw [hR 8 5 49 rfl]; rfl
theorem f8_6 {I : Nat → Nat → Int32} {L : Nat → Nat → Int64} {R : Nat → Nat → Option Nat} (hR : aRf R) : aVal (sh0, I, L, R) (aT 10 6) 8 6 = .ref 53 := by show va_rf (R 8 6) = _; rw [hR 8 6 53 rfl]; rfl
theorem f8_7 {I : Nat → Nat → Int32} {L : Nat → Nat → Int64} {R : Nat → Nat → Option Nat} (hR : aRf R) : aVal (sh0, I, L, R) (aT 10 7) 8 7 = .ref 77 := by show va_rf (R 8 7) = _; rw [hR 8 7 77 rfl]; rfl
theorem f8_8 {I : Nat → Nat → Int32} {L : Nat → Nat → Int64} {R : Nat → Nat → Option Nat} (hR : aRf R) : aVal (sh0, I, L, R) (aT 10 8) 8 8 = .ref 28 := by show va_rf (R 8 8) = _; rw [hR 8 8 28 rfl]; rfl
theorem f8_9 {I : Nat → Nat → Int32} {L : Nat → Nat → Int64} {R : Nat → Nat → Option Nat} (hR : aRf R) : aVal (sh0, I, L, R) (aT 10 9) 8 9 = .ref 37 := by show va_rf (R 8 9) = _; rw [hR 8 9 37 rfl]; rfl
theorem f10_0 {I : Nat → Nat → Int32} {L : Nat → Nat → Int64} {R : Nat → Nat → Option Nat} (hR : aRf R) : aVal (sh0, I, L, R) (aT 3 0) 10 0 = .ref 11 := by show va_rf (R 10 0) = _; rw [hR 10 0 11 rfl]; rfl
theorem f10_1 {I : Nat → Nat → Int32} {L : Nat → Nat → Int64} {R : Nat → Nat → Option Nat} (hR : aRf R) : aVal (sh0, I, L, R) (aT 3 1) 10 1 = .ref 12 := by show va_rf (R 10 1) = _; rw [hR 10 1 12 rfl]; rfl
theorem f10_2 {I : Nat → Nat → Int32} {L : Nat → Nat → Int64} {R : Nat → Nat → Option Nat} (hR : aRf R) : aVal (sh0, I, L, R) (aT 3 2) 10 2 = .ref 13 := by show va_rf (R 10 2) = _; rw [hR 10 2 13 rfl]; rfl
theorem f10_3 {I : Nat → Nat → Int32} {L : Nat → Nat → Int64} {R : Nat → Nat → Option Nat} (hR : aRf R) : aVal (sh0, I, L, R) (aT 3 3) 10 3 = .ref 14 := by show va_rf (R 10 3) = _; rw [hR 10 3 14 rfl]; rfl
theorem f10_4 {I : Nat → Nat → Int32} {L : Nat → Nat → Int64} {R : Nat → Nat → Option Nat} (hR : aRf R) : aVal (sh0, I, L, R) (aT 3 4) 10 4 = .ref 15 := by show va_rf (R 10 4) = _; rw [hR 10 4 15 rfl]; rfl
theorem f16_1 {I : Nat → Nat → Int32} {L : Nat → Nat → Int64} {R : Nat → Nat → Option Nat} (hR : aRf R) : aVal (sh0, I, L, R) (aT 5 1) 16 1 = .ref 17 := by show va_rf (R 16 1) = _; rw [hR 16 1 17 rfl]; rfl
theorem f16_2 {I : Nat → Nat → Int32} {L : Nat → Nat → Int64} {R : Nat → Nat → Option Nat} (hR : aRf R) : aVal (sh0, I, L, R) (aT 5 2) 16 2 = .ref 18 := by show va_rf (R 16 2) = _; rw [hR 16 2 18 rfl]; rfl
theorem f16_3 {I : Nat → Nat → Int32} {L : Nat → Nat → Int64} {R : Nat → Nat → Option Nat} (hR : aRf R) : aVal (sh0, I, L, R) (aT 5 3) 16 3 = .ref 19 := by show va_rf (R 16 3) = _; rw [hR 16 3 19 rfl]; rfl
theorem f16_4 {I : Nat → Nat → Int32} {L : Nat → Nat → Int64} {R : Nat → Nat → Option Nat} (hR : aRf R) : aVal (sh0, I, L, R) (aT 5 4) 16 4 = .ref 20 := by show va_rf (R 16 4) = _; rw [hR 16 4 20 rfl]; rfl
theorem f16_6 {I : Nat → Nat → Int32} {L : Nat → Nat → Int64} {R : Nat → Nat → Option Nat} (hR : aRf R) : aVal (sh0, I, L, R) (aT 5 6) 16 6 = .ref 21 := by show va_rf (R 16 6) = _; rw [hR 16 6 21 rfl]; rfl
theorem f16_7 {I : Nat → Nat → Int32} {L : Nat → Nat → Int64} {R : Nat → Nat → Option Nat} (hR : aRf R) : aVal (sh0, I, L, R) (aT 5 7) 16 7 = .ref 22 := by show va_rf (R 16 7) = _; rw [hR 16 7 22 rfl]; rfl
theorem f16_8 {I : Nat → Nat → Int32} {L : Nat → Nat → Int64} {R : Nat → Nat → Option Nat} (hR : aRf R) : aVal (sh0, I, L, R) (aT 5 8) 16 8 = .ref 23 := by show va_rf (R 16 8) = _; rw [hR 16 8 23 rfl]; rfl
theorem f16_9 {I : Nat → Nat → Int32} {L : Nat → Nat → Int64} {R : Nat → Nat → Option Nat} (hR : aRf R) : aVal (sh0, I, L, R) (aT 5 9) 16 9 = .ref 24 := by show va_rf (R 16 9) = _; rw [hR 16 9 24 rfl]; rfl
theorem f16_10 {I : Nat → Nat → Int32} {L : Nat → Nat → Int64} {R : Nat → Nat → Option Nat} (hR : aRf R) : aVal (sh0, I, L, R) (aT 5 10) 16 10 = .ref 25 := by show va_rf (R 16 10) = _; rw [hR 16 10 25 rfl]; rfl
theorem f16_12 {I : Nat → Nat → Int32} {L : Nat → Nat → Int64} {R : Nat → Nat → Option Nat} (hR : aRf R) : aVal (sh0, I, L, R) (aT 5 12) 16 12 = .ref 26 := by show va_rf (R 16 12) = _; rw [hR 16 12 26 rfl]; rfl
theorem f16_14 {I : Nat → Nat → Int32} {L : Nat → Nat → Int64} {R : Nat → Nat → Option Nat} (hR : aRf R) : aVal (sh0, I, L, R) (aT 5 14) 16 14 = .ref 27 := by show va_rf (R 16 14) = _; rw [hR 16 14 27 rfl]; rfl
theorem f28_0 {I : Nat → Nat → Int32} {L : Nat → Nat → Int64} {R : Nat → Nat → Option Nat} (hR : aRf R) : aVal (sh0, I, L, R) (aT 2 0) 28 0 = .ref 29 := by show va_rf (R 28 0) = _; rw [hR 28 0 29 rfl]; rfl
theorem f28_1 {I : Nat → Nat → Int32} {L : Nat → Nat → Int64} {R : Nat → Nat → Option Nat} (hR : aRf R) : aVal (sh0, I, L, R) (aT 2 1) 28 1 = .ref 31 := by show va_rf (R 28 1) = _; rw [hR 28 1 31 rfl]; rfl
theorem f28_2 {I : Nat → Nat → Int32} {L : Nat → Nat → Int64} {R : Nat → Nat → Option Nat} (hR : aRf R) : aVal (sh0, I, L, R) (aT 2 2) 28 2 = .ref 33 := by show va_rf (R 28 2) = _; rw [hR 28 2 33 rfl]; rfl
theorem f28_3 {I : Nat → Nat → Int32} {L : Nat → Nat → Int64} {R : Nat → Nat → Option Nat} (hR : aRf R) : aVal (sh0, I, L, R) (aT 2 3) 28 3 = .ref 35 := by show va_rf (R 28 3) = _; rw [hR 28 3 35 rfl]; rfl
theorem f29_0 {I : Nat → Nat → Int32} {L : Nat → Nat → Int64} {R : Nat → Nat → Option Nat} (hR : aRf R) : aVal (sh0, I, L, R) (aT 9 0) 29 0 = .ref 30 := by show va_rf (R 29 0) = _; rw [hR 29 0 30 rfl]; rfl
theorem f31_0 {I : Nat → Nat → Int32} {L : Nat → Nat → Int64} {R : Nat → Nat → Option Nat} (hR : aRf R) : aVal (sh0, I, L, R) (aT 9 0) 31 0 = .ref 32 := by show va_rf (R 31 0) = _; rw [hR 31 0 32 rfl]; rfl
theorem f33_0 {I : Nat → Nat → Int32} {L : Nat → Nat → Int64} {R : Nat → Nat → Option Nat} (hR : aRf R) : aVal (sh0, I, L, R) (aT 9 0) 33 0 = .ref 34 := by show va_rf (R 33 0) = _; rw [hR 33 0 34 rfl]; rfl
theorem f35_0 {I : Nat → Nat → Int32} {L : Nat → Nat → Int64} {R : Nat → Nat → Option Nat} (hR : aRf R) : aVal (sh0, I, L, R) (aT 9 0) 35 0 = .ref 36 := by show va_rf (R 35 0) = _; rw [hR 35 0 36 rfl]; rfl
theorem f37_0 {I : Nat → Nat → Int32} {L : Nat → Nat → Int64} {R : Nat → Nat → Option Nat} (hR : aRf R) : aVal (sh0, I, L, R) (aT 8 0) 37 0 = .ref 38 := by show va_rf (R 37 0) = _; rw [hR 37 0 38 rfl]; rfl
theorem f39_0 {I : Nat → Nat → Int32} {L : Nat → Nat → Int64} {R : Nat → Nat → Option Nat} (hR : aRf R) : aVal (sh0, I, L, R) (aT 4 0) 39 0 = .ref 16 := by show va_rf (R 39 0) = _; rw [hR 39 0 16 rfl]; rfl
theorem f39_1 {I : Nat → Nat → Int32} {L : Nat → Nat → Int64} {R : Nat → Nat → Option Nat} (hR : aRf R) : aVal (sh0, I, L, R) (aT 4 1) 39 1 = .ref 10 := by show va_rf (R 39 1) = _; rw [hR 39 1 10 rfl]; rfl
theorem f39_2 {I : Nat → Nat → Int32} {L : Nat → Nat → Int64} {R : Nat → Nat → Option Nat} (hR : aRf R) : aVal (sh0, I, L, R) (aT 4 2) 39 2 = .ref 40 := by show va_rf (R 39 2) = _; rw [hR 39 2 40 rfl]; rfl
theorem f41_0 {I : Nat → Nat → Int32} {L : Nat → Nat → Int64} {R : Nat → Nat → Option Nat} (hR : aRf R) : aVal (sh0, I, L, R) (aT 1 0) 41 0 = .ref 16 := by show va_rf (R 41 0) = _; rw [hR 41 0 16 rfl]; rfl
theorem f41_1 {I : Nat → Nat → Int32} {L : Nat → Nat → Int64} {R : Nat → Nat → Option Nat} (hR : aRf R) : aVal (sh0, I, L, R) (aT 1 1) 41 1 = .ref 39 := by show va_rf (R 41 1) = _; rw [hR 41 1 39 rfl]; rfl
theorem f41_2 {I : Nat → Nat → Int32} {L : Nat → Nat → Int64} {R : Nat → Nat → Option Nat} (hR : aRf R) : aVal (sh0, I, L, R) (aT 1 2) 41 2 = .ref 9 := by show va_rf (R 41 2) = _; rw [hR 41 2 9 rfl]; rfl
theorem f41_3 {I : Nat → Nat → Int32} {L : Nat → Nat → Int64} {R : Nat → Nat → Option Nat} (hR : aRf R) : aVal (sh0, I, L, R) (aT 1 3) 41 3 = .ref 42 := by show va_rf (R 41 3) = _; rw [hR 41 3 42 rfl]; rfl
theorem f41_4 {I : Nat → Nat → Int32} {L : Nat → Nat → Int64} {R : Nat → Nat → Option Nat} (hR : aRf R) : aVal (sh0, I, L, R) (aT 1 4) 41 4 = .ref 43 := by show va_rf (R 41 4) = _; rw [hR 41 4 43 rfl]; rfl
theorem f41_5 {I : Nat → Nat → Int32} {L : Nat → Nat → Int64} {R : Nat → Nat → Option Nat} (hR : aRf R) : aVal (sh0, I, L, R) (aT 1 5) 41 5 = .ref 44 := by show va_rf (R 41 5) = _; rw [hR 41 5 44 rfl]; rfl
theorem f41_6 {I : Nat → Nat → Int32} {L : Nat → Nat → Int64} {R : Nat → Nat → Option Nat} (hR : aRf R) : aVal (sh0, I, L, R) (aT 1 6) 41 6 = .ref 45 := by show va_rf (R 41 6) = _; rw [hR 41 6 45 rfl]; rfl
theorem f41_7 {I : Nat → Nat → Int32} {L : Nat → Nat → Int64} {R : Nat → Nat → Option Nat} (hR : aRf R) : aVal (sh0, I, L, R) (aT 1 7) 41 7 = .ref 46 := by show va_rf (R 41 7) = _; rw [hR 41 7 46 rfl]; rfl
theorem f41_8 {I : Nat → Nat → Int32} {L : Nat → Nat → Int64} {R : Nat → Nat → Option Nat} (hR : aRf R) : aVal (sh0, I, L, R) (aT 1 8) 41 8 = .ref 47 := by show va_rf (R 41 8) = _; rw [hR 41 8 47 rfl]; rfl
theorem f41_9 {I : Nat → Nat → Int32} {L : Nat → Nat → Int64} {R : Nat → Nat → Option Nat} (hR : aRf R) : aVal (sh0, I, L, R) (aT 1 9) 41 9 = .ref 48 := by show va_rf (R 41 9) = _; rw [hR 41 9 48 rfl]; rfl
theorem f49_0 {I : Nat → Nat → Int32} {L : Nat → Nat → Int64} {R : Nat → Nat → Option Nat} (hR : aRf R) : aVal (sh0, I, L, R) (aT 0 0) 49 0 = .ref 16 := by show va_rf (R 49 0) = _; rw [hR 49 0 16 rfl]; rfl
theorem f49_1 {I : Nat → Nat → Int32} {L : Nat → Nat → Int64} {R : Nat → Nat → Option Nat} (hR : aRf R) : aVal (sh0, I, L, R) (aT 0 1) 49 1 = .ref 10 := by show va_rf (R 49 1) = _; rw [hR 49 1 10 rfl]; rfl
theorem f49_2 {I : Nat → Nat → Int32} {L : Nat → Nat → Int64} {R : Nat → Nat → Option Nat} (hR : aRf R) : aVal (sh0, I, L, R) (aT 0 2) 49 2 = .ref 39 := by show va_rf (R 49 2) = _; rw [hR 49 2 39 rfl]; rfl
theorem f49_3 {I : Nat → Nat → Int32} {L : Nat → Nat → Int64} {R : Nat → Nat → Option Nat} (hR : aRf R) : aVal (sh0, I, L, R) (aT 0 3) 49 3 = .ref 41 := by show va_rf (R 49 3) = _; rw [hR 49 3 41 rfl]; rfl
theorem f49_4 {I : Nat → Nat → Int32} {L : Nat → Nat → Int64} {R : Nat → Nat → Option Nat} (hR : aRf R) : aVal (sh0, I, L, R) (aT 0 4) 49 4 = .ref 50 := by show va_rf (R 49 4) = _; rw [hR 49 4 50 rfl]; rfl
theorem f49_5 {I : Nat → Nat → Int32} {L : Nat → Nat → Int64} {R : Nat → Nat → Option Nat} (hR : aRf R) : aVal (sh0, I, L, R) (aT 0 5) 49 5 = .ref 51 := by show va_rf (R 49 5) = _; rw [hR 49 5 51 rfl]; rfl
theorem f49_6 {I : Nat → Nat → Int32} {L : Nat → Nat → Int64} {R : Nat → Nat → Option Nat} (hR : aRf R) : aVal (sh0, I, L, R) (aT 0 6) 49 6 = .ref 52 := by show va_rf (R 49 6) = _; rw [hR 49 6 52 rfl]; rfl
theorem f53_0 {I : Nat → Nat → Int32} {L : Nat → Nat → Int64} {R : Nat → Nat → Option Nat} (hR : aRf R) : aVal (sh0, I, L, R) (aT 7 0) 53 0 = .ref 16 := by show va_rf (R 53 0) = _; rw [hR 53 0 16 rfl]; rfl
theorem f53_1 {I : Nat → Nat → Int32} {L : Nat → Nat → Int64} {R : Nat → Nat → Option Nat} (hR : aRf R) : aVal (sh0, I, L, R) (aT 7 1) 53 1 = .ref 39 := by show va_rf (R 53 1) = _; rw [hR 53 1 39 rfl]; rfl
theorem f53_2 {I : Nat → Nat → Int32} {L : Nat → Nat → Int64} {R : Nat → Nat → Option Nat} (hR : aRf R) : aVal (sh0, I, L, R) (aT 7 2) 53 2 = .ref 41 := by show va_rf (R 53 2) = _; rw [hR 53 2 41 rfl]; rfl
theorem f53_3 {I : Nat → Nat → Int32} {L : Nat → Nat → Int64} {R : Nat → Nat → Option Nat} (hR : aRf R) : aVal (sh0, I, L, R) (aT 7 3) 53 3 = .ref 9 := by show va_rf (R 53 3) = _; rw [hR 53 3 9 rfl]; rfl
theorem f53_7 {I : Nat → Nat → Int32} {L : Nat → Nat → Int64} {R : Nat → Nat → Option Nat} (hR : aRf R) : aVal (sh0, I, L, R) (aT 7 7) 53 7 = .ref 54 := by show va_rf (R 53 7) = _; rw [hR 53 7 54 rfl]; rfl
theorem f53_8 {I : Nat → Nat → Int32} {L : Nat → Nat → Int64} {R : Nat → Nat → Option Nat} (hR : aRf R) : aVal (sh0, I, L, R) (aT 7 8) 53 8 = .ref 75 := by show va_rf (R 53 8) = _; rw [hR 53 8 75 rfl]; rfl
theorem f53_9 {I : Nat → Nat → Int32} {L : Nat → Nat → Int64} {R : Nat → Nat → Option Nat} (hR : aRf R) : aVal (sh0, I, L, R) (aT 7 9) 53 9 = .ref 76 := by show va_rf (R 53 9) = _; rw [hR 53 9 76 rfl]; rfl
theorem f77_0 {I : Nat → Nat → Int32} {L : Nat → Nat → Int64} {R : Nat → Nat → Option Nat} (hR : aRf R) : aVal (sh0, I, L, R) (aT 6 0) 77 0 = .ref 53 := by show va_rf (R 77 0) = _; rw [hR 77 0 53 rfl]; rfl
theorem f77_1 {I : Nat → Nat → Int32} {L : Nat → Nat → Int64} {R : Nat → Nat → Option Nat} (hR : aRf R) : aVal (sh0, I, L, R) (aT 6 1) 77 1 = .ref 78 := by show va_rf (R 77 1) = _; rw [hR 77 1 78 rfl]; rfl
theorem f77_2 {I : Nat → Nat → Int32} {L : Nat → Nat → Int64} {R : Nat → Nat → Option Nat} (hR : aRf R) : aVal (sh0, I, L, R) (aT 6 2) 77 2 = .ref 79 := by show va_rf (R 77 2) = _; rw [hR 77 2 79 rfl]; rfl
theorem f77_3 {I : Nat → Nat → Int32} {L : Nat → Nat → Int64} {R : Nat → Nat → Option Nat} (hR : aRf R) : aVal (sh0, I, L, R) (aT 6 3) 77 3 = .ref 100 := by show va_rf (R 77 3) = _; rw [hR 77 3 100 rfl]; rfl
theorem f77_4 {I : Nat → Nat → Int32} {L : Nat → Nat → Int64} {R : Nat → Nat → Option Nat} (hR : aRf R) : aVal (sh0, I, L, R) (aT 6 4) 77 4 = .ref 112 := by show va_rf (R 77 4) = _; rw [hR 77 4 112 rfl]; rfl
theorem f77_5 {I : Nat → Nat → Int32} {L : Nat → Nat → Int64} {R : Nat → Nat → Option Nat} (hR : aRf R) : aVal (sh0, I, L, R) (aT 6 5) 77 5 = .ref 113 := by show va_rf (R 77 5) = _; rw [hR 77 5 113 rfl]; rfl
theorem f77_6 {I : Nat → Nat → Int32} {L : Nat → Nat → Int64} {R : Nat → Nat → Option Nat} (hR : aRf R) : aVal (sh0, I, L, R) (aT 6 6) 77 6 = .ref 114 := by show va_rf (R 77 6) = _; rw [hR 77 6 114 rfl]; rfl
theorem f115_0 {I : Nat → Nat → Int32} {L : Nat → Nat → Int64} {R : Nat → Nat → Option Nat} (hR : aRf R) : aVal (sh0, I, L, R) (aT 9 0) 115 0 = .ref 116 := by show va_rf (R 115 0) = _; rw [hR 115 0 116 rfl]; rfl
theorem f117_0 {I : Nat → Nat → Int32} {L : Nat → Nat → Int64} {R : Nat → Nat → Option Nat} (hR : aRf R) : aVal (sh0, I, L, R) (aT 9 0) 117 0 = .ref 118 := by show va_rf (R 117 0) = _; rw [hR 117 0 118 rfl]; rfl
theorem f119_0 {I : Nat → Nat → Int32} {L : Nat → Nat → Int64} {R : Nat → Nat → Option Nat} (hR : aRf R) : aVal (sh0, I, L, R) (aT 9 0) 119 0 = .ref 120 := by show va_rf (R 119 0) = _; rw [hR 119 0 120 rfl]; rfl
theorem f121_0 {I : Nat → Nat → Int32} {L : Nat → Nat → Int64} {R : Nat → Nat → Option Nat} (hR : aRf R) : aVal (sh0, I, L, R) (aT 9 0) 121 0 = .ref 122 := by show va_rf (R 121 0) = _; rw [hR 121 0 122 rfl]; rfl
theorem f123_0 {I : Nat → Nat → Int32} {L : Nat → Nat → Int64} {R : Nat → Nat → Option Nat} (hR : aRf R) : aVal (sh0, I, L, R) (aT 9 0) 123 0 = .ref 124 := by show va_rf (R 123 0) = _; rw [hR 123 0 124 rfl]; rfl
theorem f125_0 {I : Nat → Nat → Int32} {L : Nat → Nat → Int64} {R : Nat → Nat → Option Nat} (hR : aRf R) : aVal (sh0, I, L, R) (aT 9 0) 125 0 = .ref 126 := by show va_rf (R 125 0) = _; rw [hR 125 0 126 rfl]; rfl
theorem f127_0 {I : Nat → Nat → Int32} {L : Nat → Nat → Int64} {R : Nat → Nat → Option Nat} (hR : aRf R) : aVal (sh0, I, L, R) (aT 9 0) 127 0 = .ref 128 := by show va_rf (R 127 0) = _; rw [hR 127 0 128 rfl]; rfl
theorem f129_0 {I : Nat → Nat → Int32} {L : Nat → Nat → Int64} {R : Nat → Nat → Option Nat} (hR : aRf R) : aVal (sh0, I, L, R) (aT 9 0) 129 0 = .ref 130 := by show va_rf (R 129 0) = _; rw [hR 129 0 130 rfl]; rfl
theorem f131_0 {I : Nat → Nat → Int32} {L : Nat → Nat → Int64} {R : Nat → Nat → Option Nat} (hR : aRf R) : aVal (sh0, I, L, R) (aT 9 0) 131 0 = .ref 132 := by show va_rf (R 131 0) = _; rw [hR 131 0 132 rfl]; rfl
theorem f133_0 {I : Nat → Nat → Int32} {L : Nat → Nat → Int64} {R : Nat → Nat → Option Nat} (hR : aRf R) : aVal (sh0, I, L, R) (aT 9 0) 133 0 = .ref 134 := by show va_rf (R 133 0) = _; rw [hR 133 0 134 rfl]; rfl
theorem f135_0 {I : Nat → Nat → Int32} {L : Nat → Nat → Int64} {R : Nat → Nat → Option Nat} (hR : aRf R) : aVal (sh0, I, L, R) (aT 9 0) 135 0 = .ref 136 := by show va_rf (R 135 0) = _; rw [hR 135 0 136 rfl]; rfl
theorem f137_0 {I : Nat → Nat → Int32} {L : Nat → Nat → Int64} {R : Nat → Nat → Option Nat} (hR : aRf R) : aVal (sh0, I, L, R) (aT 9 0) 137 0 = .ref 138 := by show va_rf (R 137 0) = _; rw [hR 137 0 138 rfl]; rfl
theorem f139_0 {I : Nat → Nat → Int32} {L : Nat → Nat → Int64} {R : Nat → Nat → Option Nat} (hR : aRf R) : aVal (sh0, I, L, R) (aT 9 0) 139 0 = .ref 140 := by show va_rf (R 139 0) = _; rw [hR 139 0 140 rfl]; rfl
theorem f141_0 {I : Nat → Nat → Int32} {L : Nat → Nat → Int64} {R : Nat → Nat → Option Nat} (hR : aRf R) : aVal (sh0, I, L, R) (aT 9 0) 141 0 = .ref 142 := by show va_rf (R 141 0) = _; rw [hR 141 0 142 rfl]; rfl
theorem f143_0 {I : Nat → Nat → Int32} {L : Nat → Nat → Int64} {R : Nat → Nat → Option Nat} (hR : aRf R) : aVal (sh0, I, L, R) (aT 9 0) 143 0 = .ref 144 := by show va_rf (R 143 0) = _; rw [hR 143 0 144 rfl]; rfl
theorem f145_0 {I : Nat → Nat → Int32} {L : Nat → Nat → Int64} {R : Nat → Nat → Option Nat} (hR : aRf R) : aVal (sh0, I, L, R) (aT 9 0) 145 0 = .ref 146 := by show va_rf (R 145 0) = _; rw [hR 145 0 146 rfl]; rfl
theorem f147_0 {I : Nat → Nat → Int32} {L : Nat → Nat → Int64} {R : Nat → Nat → Option Nat} (hR : aRf R) : aVal (sh0, I, L, R) (aT 9 0) 147 0 = .ref 148 := by show va_rf (R 147 0) = _; rw [hR 147 0 148 rfl]; rfl
theorem f149_0 {I : Nat → Nat → Int32} {L : Nat → Nat → Int64} {R : Nat → Nat → Option Nat} (hR : aRf R) : aVal (sh0, I, L, R) (aT 9 0) 149 0 = .ref 150 := by show va_rf (R 149 0) = _; rw [hR 149 0 150 rfl]; rfl
theorem f151_0 {I : Nat → Nat → Int32} {L : Nat → Nat → Int64} {R : Nat → Nat → Option Nat} (hR : aRf R) : aVal (sh0, I, L, R) (aT 9 0) 151 0 = .ref 152 := by show va_rf (R 151 0) = _; rw [hR 151 0 152 rfl]; rfl
theorem f153_0 {I : Nat → Nat → Int32} {L : Nat → Nat → Int64} {R : Nat → Nat → Option Nat} (hR : aRf R) : aVal (sh0, I, L, R) (aT 9 0) 153 0 = .ref 154 := by show va_rf (R 153 0) = _; rw [hR 153 0 154 rfl]; rfl
theorem f155_0 {I : Nat → Nat → Int32} {L : Nat → Nat → Int64} {R : Nat → Nat → Option Nat} (hR : aRf R) : aVal (sh0, I, L, R) (aT 9 0) 155 0 = .ref 156 := by show va_rf (R 155 0) = _; rw [hR 155 0 156 rfl]; rfl
theorem f157_0 {I : Nat → Nat → Int32} {L : Nat → Nat → Int64} {R : Nat → Nat → Option Nat} (hR : aRf R) : aVal (sh0, I, L, R) (aT 9 0) 157 0 = .ref 158 := by show va_rf (R 157 0) = _; rw [hR 157 0 158 rfl]; rfl
theorem f159_1 {I : Nat → Nat → Int32} {L : Nat → Nat → Int64} {R : Nat → Nat → Option Nat} (hR : aRf R) : aVal (sh0, I, L, R) (aT 11 1) 159 1 = .ref 160 := by show va_rf (R 159 1) = _; rw [hR 159 1 160 rfl]; rfl
theorem f159_2 {I : Nat → Nat → Int32} {L : Nat → Nat → Int64} {R : Nat → Nat → Option Nat} (hR : aRf R) : aVal (sh0, I, L, R) (aT 11 2) 159 2 = .ref 161 := by show va_rf (R 159 2) = _; rw [hR 159 2 161 rfl]; rfl
theorem f159_3 {I : Nat → Nat → Int32} {L : Nat → Nat → Int64} {R : Nat → Nat → Option Nat} (hR : aRf R) : aVal (sh0, I, L, R) (aT 11 3) 159 3 = .ref 162 := by show va_rf (R 159 3) = _; rw [hR 159 3 162 rfl]; rfl
theorem f159_4 {I : Nat → Nat → Int32} {L : Nat → Nat → Int64} {R : Nat → Nat → Option Nat} (hR : aRf R) : aVal (sh0, I, L, R) (aT 11 4) 159 4 = .ref 163 := by show va_rf (R 159 4) = _; rw [hR 159 4 163 rfl]; rfl
theorem f159_5 {I : Nat → Nat → Int32} {L : Nat → Nat → Int64} {R : Nat → Nat → Option Nat} (hR : aRf R) : aVal (sh0, I, L, R) (aT 11 5) 159 5 = .ref 164 := by show va_rf (R 159 5) = _; rw [hR 159 5 164 rfl]; rfl
theorem f159_6 {I : Nat → Nat → Int32} {L : Nat → Nat → Int64} {R : Nat → Nat → Option Nat} (hR : aRf R) : aVal (sh0, I, L, R) (aT 11 6) 159 6 = .ref 165 := by show va_rf (R 159 6) = _; rw [hR 159 6 165 rfl]; rfl
theorem f159_7 {I : Nat → Nat → Int32} {L : Nat → Nat → Int64} {R : Nat → Nat → Option Nat} (hR : aRf R) : aVal (sh0, I, L, R) (aT 11 7) 159 7 = .ref 166 := by show va_rf (R 159 7) = _; rw [hR 159 7 166 rfl]; rfl
theorem f159_8 {I : Nat → Nat → Int32} {L : Nat → Nat → Int64} {R : Nat → Nat → Option Nat} (hR : aRf R) : aVal (sh0, I, L, R) (aT 11 8) 159 8 = .ref 167 := by show va_rf (R 159 8) = _; rw [hR 159 8 167 rfl]; rfl
theorem f159_9 {I : Nat → Nat → Int32} {L : Nat → Nat → Int64} {R : Nat → Nat → Option Nat} (hR : aRf R) : aVal (sh0, I, L, R) (aT 11 9) 159 9 = .ref 168 := by show va_rf (R 159 9) = _; rw [hR 159 9 168 rfl]; rfl
theorem f159_10 {I : Nat → Nat → Int32} {L : Nat → Nat → Int64} {R : Nat → Nat → Option Nat} (hR : aRf R) : aVal (sh0, I, L, R) (aT 11 10) 159 10 = .ref 169 := by show va_rf (R 159 10) = _; rw [hR 159 10 169 rfl]; rfl
theorem f159_11 {I : Nat → Nat → Int32} {L : Nat → Nat → Int64} {R : Nat → Nat → Option Nat} (hR : aRf R) : aVal (sh0, I, L, R) (aT 11 11) 159 11 = .ref 170 := by show va_rf (R 159 11) = _; rw [hR 159 11 170 rfl]; rfl
theorem f159_15 {I : Nat → Nat → Int32} {L : Nat → Nat → Int64} {R : Nat → Nat → Option Nat} (hR : aRf R) : aVal (sh0, I, L, R) (aT 11 15) 159 15 = .ref 171 := by show va_rf (R 159 15) = _; rw [hR 159 15 171 rfl]; rfl
theorem f159_16 {I : Nat → Nat → Int32} {L : Nat → Nat → Int64} {R : Nat → Nat → Option Nat} (hR : aRf R) : aVal (sh0, I, L, R) (aT 11 16) 159 16 = .ref 172 := by show va_rf (R 159 16) = _; rw [hR 159 16 172 rfl]; rfl
theorem f159_17 {I : Nat → Nat → Int32} {L : Nat → Nat → Int64} {R : Nat → Nat → Option Nat} (hR : aRf R) : aVal (sh0, I, L, R) (aT 11 17) 159 17 = .ref 173 := by show va_rf (R 159 17) = _; rw [hR 159 17 173 rfl]; rfl
theorem f159_18 {I : Nat → Nat → Int32} {L : Nat → Nat → Int64} {R : Nat → Nat → Option Nat} (hR : aRf R) : aVal (sh0, I, L, R) (aT 11 18) 159 18 = .ref 174 := by show va_rf (R 159 18) = _; rw [hR 159 18 174 rfl]; rfl
theorem f159_19 {I : Nat → Nat → Int32} {L : Nat → Nat → Int64} {R : Nat → Nat → Option Nat} (hR : aRf R) : aVal (sh0, I, L, R) (aT 11 19) 159 19 = .ref 175 := by show va_rf (R 159 19) = _; rw [hR 159 19 175 rfl]; rfl
theorem f159_20 {I : Nat → Nat → Int32} {L : Nat → Nat → Int64} {R : Nat → Nat → Option Nat} (hR : aRf R) : aVal (sh0, I, L, R) (aT 11 20) 159 20 = .ref 176 := by show va_rf (R 159 20) = _; rw [hR 159 20 176 rfl]; rfl
theorem f159_22 {I : Nat → Nat → Int32} {L : Nat → Nat → Int64} {R : Nat → Nat → Option Nat} (hR : aRf R) : aVal (sh0, I, L, R) (aT 11 22) 159 22 = .ref 177 := by show va_rf (R 159 22) = _; rw [hR 159 22 177 rfl]; rfl
theorem f159_23 {I : Nat → Nat → Int32} {L : Nat → Nat → Int64} {R : Nat → Nat → Option Nat} (hR : aRf R) : aVal (sh0, I, L, R) (aT 11 23) 159 23 = .ref 178 := by show va_rf (R 159 23) = _; rw [hR 159 23 178 rfl]; rfl
theorem f159_24 {I : Nat → Nat → Int32} {L : Nat → Nat → Int64} {R : Nat → Nat → Option Nat} (hR : aRf R) : aVal (sh0, I, L, R) (aT 11 24) 159 24 = .ref 179 := by show va_rf (R 159 24) = _; rw [hR 159 24 179 rfl]; rfl
theorem f159_25 {I : Nat → Nat → Int32} {L : Nat → Nat → Int64} {R : Nat → Nat → Option Nat} (hR : aRf R) : aVal (sh0, I, L, R) (aT 11 25) 159 25 = .ref 180 := by show va_rf (R 159 25) = _; rw [hR 159 25 180 rfl]; rfl
theorem f159_26 {I : Nat → Nat → Int32} {L : Nat → Nat → Int64} {R : Nat → Nat → Option Nat} (hR : aRf R) : aVal (sh0, I, L, R) (aT 11 26) 159 26 = .ref 181 := by show va_rf (R 159 26) = _; rw [hR 159 26 181 rfl]; rfl
theorem f159_27 {I : Nat → Nat → Int32} {L : Nat → Nat → Int64} {R : Nat → Nat → Option Nat} (hR : aRf R) : aVal (sh0, I, L, R) (aT 11 27) 159 27 = .ref 182 := by show va_rf (R 159 27) = _; rw [hR 159 27 182 rfl]; rfl
theorem f159_28 {I : Nat → Nat → Int32} {L : Nat → Nat → Int64} {R : Nat → Nat → Option Nat} (hR : aRf R) : aVal (sh0, I, L, R) (aT 11 28) 159 28 = .ref 183 := by show va_rf (R 159 28) = _; rw [hR 159 28 183 rfl]; rfl
theorem f159_29 {I : Nat → Nat → Int32} {L : Nat → Nat → Int64} {R : Nat → Nat → Option Nat} (hR : aRf R) : aVal (sh0, I, L, R) (aT 11 29) 159 29 = .ref 184 := by show va_rf (R 159 29) = _; rw [hR 159 29 184 rfl]; rfl
theorem f159_30 {I : Nat → Nat → Int32} {L : Nat → Nat → Int64} {R : Nat → Nat → Option Nat} (hR : aRf R) : aVal (sh0, I, L, R) (aT 11 30) 159 30 = .ref 185 := by show va_rf (R 159 30) = _; rw [hR 159 30 185 rfl]; rfl
theorem f159_31 {I : Nat → Nat → Int32} {L : Nat → Nat → Int64} {R : Nat → Nat → Option Nat} (hR : aRf R) : aVal (sh0, I, L, R) (aT 11 31) 159 31 = .ref 186 := by show va_rf (R 159 31) = _; rw [hR 159 31 186 rfl]; rfl
theorem f159_35 {I : Nat → Nat → Int32} {L : Nat → Nat → Int64} {R : Nat → Nat → Option Nat} (hR : aRf R) : aVal (sh0, I, L, R) (aT 11 35) 159 35 = .ref 187 := by show va_rf (R 159 35) = _; rw [hR 159 35 187 rfl]; rfl
theorem f159_37 {I : Nat → Nat → Int32} {L : Nat → Nat → Int64} {R : Nat → Nat → Option Nat} (hR : aRf R) : aVal (sh0, I, L, R) (aT 11 37) 159 37 = .ref 188 := by show va_rf (R 159 37) = _; rw [hR 159 37 188 rfl]; rfl
theorem f159_38 {I : Nat → Nat → Int32} {L : Nat → Nat → Int64} {R : Nat → Nat → Option Nat} (hR : aRf R) : aVal (sh0, I, L, R) (aT 11 38) 159 38 = .ref 189 := by show va_rf (R 159 38) = _; rw [hR 159 38 189 rfl]; rfl
theorem f159_39 {I : Nat → Nat → Int32} {L : Nat → Nat → Int64} {R : Nat → Nat → Option Nat} (hR : aRf R) : aVal (sh0, I, L, R) (aT 11 39) 159 39 = .ref 190 := by show va_rf (R 159 39) = _; rw [hR 159 39 190 rfl]; rfl
theorem f159_40 {I : Nat → Nat → Int32} {L : Nat → Nat → Int64} {R : Nat → Nat → Option Nat} (hR : aRf R) : aVal (sh0, I, L, R) (aT 11 40) 159 40 = .ref 191 := by show va_rf (R 159 40) = _; rw [hR 159 40 191 rfl]; rfl
theorem f159_41 {I : Nat → Nat → Int32} {L : Nat → Nat → Int64} {R : Nat → Nat → Option Nat} (hR : aRf R) : aVal (sh0, I, L, R) (aT 11 41) 159 41 = .ref 192 := by show va_rf (R 159 41) = _; rw [hR 159 41 192 rfl]; rfl
theorem f159_43 {I : Nat → Nat → Int32} {L : Nat → Nat → Int64} {R : Nat → Nat → Option Nat} (hR : aRf R) : aVal (sh0, I, L, R) (aT 11 43) 159 43 = .ref 193 := by show va_rf (R 159 43) = _; rw [hR 159 43 193 rfl]; rfl
theorem f159_44 {I : Nat → Nat → Int32} {L : Nat → Nat → Int64} {R : Nat → Nat → Option Nat} (hR : aRf R) : aVal (sh0, I, L, R) (aT 11 44) 159 44 = .ref 194 := by show va_rf (R 159 44) = _; rw [hR 159 44 194 rfl]; rfl
theorem f159_45 {I : Nat → Nat → Int32} {L : Nat → Nat → Int64} {R : Nat → Nat → Option Nat} (hR : aRf R) : aVal (sh0, I, L, R) (aT 11 45) 159 45 = .ref 195 := by show va_rf (R 159 45) = _; rw [hR 159 45 195 rfl]; rfl
theorem f159_46 {I : Nat → Nat → Int32} {L : Nat → Nat → Int64} {R : Nat → Nat → Option Nat} (hR : aRf R) : aVal (sh0, I, L, R) (aT 11 46) 159 46 = .ref 196 := by show va_rf (R 159 46) = _; rw [hR 159 46 196 rfl]; rfl
end
section
theorem kX0_make_43 : aLV mX0_make 43 mX5_findCommon 1 5 := ⟨wmX5_findCommon, lmX0_43, wiX5_findCommon, wlX5_findCommon, ⟨_, _, rfl⟩, pnX5_findCommon, ⟨by decide, by decide⟩, rfl, rfl⟩
theorem kX0_make_53 : aLV mX0_make 53 mX0_goOn 2 0 := ⟨wmX0_goOn, lmX0_53, wiX0_goOn, wlX0_goOn, ⟨_, _, rfl⟩, pnX0_goOn, ⟨by decide, by decide⟩, rfl, rfl⟩
theorem kX0_make_57 : aLV mX0_make 57 mX0_begin 1 0 := ⟨wmX0_begin, lmX0_57, wiX0_begin, wlX0_begin, ⟨_, _, rfl⟩, pnX0_begin, ⟨by decide, by decide⟩, rfl, rfl⟩
theorem kX0_make_60 : aLV mX0_make 60 mX0_driftOf 1 0 := ⟨wmX0_driftOf, lmX0_60, wiX0_driftOf, wlX0_driftOf, ⟨_, _, rfl⟩, pnX0_driftOf, ⟨by decide, by decide⟩, rfl, rfl⟩
theorem kX0_goOn_70 : aLV mX0_goOn 70 mX0_multiply 4 0 := ⟨wmX0_multiply, lmX0_70, wiX0_multiply, wlX0_multiply, ⟨_, _, rfl⟩, pnX0_multiply, ⟨by decide, by decide⟩, rfl, rfl⟩
theorem kX0_multiply_79 : aLV mX0_multiply 79 mX4_open 2 4 := ⟨wmX4_open, lmX0_79, wiX4_open, wlX4_open, ⟨_, _, rfl⟩, pnX4_open, ⟨by decide, by decide⟩, rfl, rfl⟩
theorem kX0_multiply_92 : aLV mX0_multiply 92 mX4_octavesOf 2 4 := ⟨wmX4_octavesOf, lmX0_92, wiX4_octavesOf, wlX4_octavesOf, ⟨_, _, rfl⟩, pnX4_octavesOf, ⟨by decide, by decide⟩, rfl, rfl⟩
theorem kX0_driftOf_99 : aLV mX0_driftOf 99 mX5_baseKey 1 5 := ⟨wmX5_baseKey, lmX0_99, wiX5_baseKey, wlX5_baseKey, ⟨_, _, rfl⟩, pnX5_baseKey, ⟨by decide, by decide⟩, rfl, rfl⟩
theorem kX0_findPump_102 : aLV mX0_findPump 102 mX0_isPump 2 0 := ⟨wmX0_isPump, lmX0_102, wiX0_isPump, wlX0_isPump, ⟨_, _, rfl⟩, pnX0_isPump, ⟨by decide, by decide⟩, rfl, rfl⟩
theorem kX0_isPump_99 : aLV mX0_isPump 99 mX5_baseKey 1 5 := ⟨wmX5_baseKey, lmX0_99, wiX5_baseKey, wlX5_baseKey, ⟨_, _, rfl⟩, pnX5_baseKey, ⟨by decide, by decide⟩, rfl, rfl⟩
theorem kX1_make_45 : aLV mX1_make 45 mX1_countReadings 0 1 := ⟨wmX1_countReadings, lmX1_45, wiX1_countReadings, wlX1_countReadings, ⟨_, _, rfl⟩, pnX1_countReadings, ⟨by decide, by decide⟩, rfl, rfl⟩
theorem kX1_make_54 : aLV mX1_make 54 mX1_weighReadings 1 1 := ⟨wmX1_weighReadings, lmX1_54, wiX1_weighReadings, wlX1_weighReadings, ⟨_, _, rfl⟩, pnX1_weighReadings, ⟨by decide, by decide⟩, rfl, rfl⟩
theorem kX1_make_58 : aLV mX1_make 58 mX1_joinNext 1 1 := ⟨wmX1_joinNext, lmX1_58, wiX1_joinNext, wlX1_joinNext, ⟨_, _, rfl⟩, pnX1_joinNext, ⟨by decide, by decide⟩, rfl, rfl⟩
theorem kX1_make_67 : aLV mX1_make 67 mX1_followLeast 0 1 := ⟨wmX1_followLeast, lmX1_67, wiX1_followLeast, wlX1_followLeast, ⟨_, _, rfl⟩, pnX1_followLeast, ⟨by decide, by decide⟩, rfl, rfl⟩
theorem kX1_countReadings_71 : aLV mX1_countReadings 71 mX4_countOf 1 4 := ⟨wmX4_countOf, lmX1_71, wiX4_countOf, wlX4_countOf, ⟨_, _, rfl⟩, pnX4_countOf, ⟨by decide, by decide⟩, rfl, rfl⟩
theorem kX1_countReadings_77 : aLS mX1_countReadings 77 mJ9_min_7cf53 2 := ⟨wmJ9_min_7cf53, lmX1_77, wsJ9_min_7cf53, pnJ9_min_7cf53, ⟨by decide, by decide⟩, rfl, rfl⟩
theorem kX1_weighReadings_83 : aLV mX1_weighReadings 83 mX4_open 2 4 := ⟨wmX4_open, lmX1_83, wiX4_open, wlX4_open, ⟨_, _, rfl⟩, pnX4_open, ⟨by decide, by decide⟩, rfl, rfl⟩
theorem kX1_weighReadings_87 : aLV mX1_weighReadings 87 mX4_harshness 1 4 := ⟨wmX4_harshness, lmX1_87, wiX4_harshness, wlX4_harshness, ⟨_, _, rfl⟩, pnX4_harshness, ⟨by decide, by decide⟩, rfl, rfl⟩
theorem kX1_joinNext_90 : aLV mX1_joinNext 90 mX5_findCommon 1 5 := ⟨wmX5_findCommon, lmX1_90, wiX5_findCommon, wlX5_findCommon, ⟨_, _, rfl⟩, pnX5_findCommon, ⟨by decide, by decide⟩, rfl, rfl⟩
theorem kX1_joinNext_93 : aLV mX1_joinNext 93 mX1_fillOffsets 2 1 := ⟨wmX1_fillOffsets, lmX1_93, wiX1_fillOffsets, wlX1_fillOffsets, ⟨_, _, rfl⟩, pnX1_fillOffsets, ⟨by decide, by decide⟩, rfl, rfl⟩
theorem kX1_joinNext_97 : aLV mX1_joinNext 97 mX1_joinReading 2 1 := ⟨wmX1_joinReading, lmX1_97, wiX1_joinReading, wlX1_joinReading, ⟨_, _, rfl⟩, pnX1_joinReading, ⟨by decide, by decide⟩, rfl, rfl⟩
theorem kX1_fillOffsets_100 : aLV mX1_fillOffsets 100 mX5_baseKey 1 5 := ⟨wmX5_baseKey, lmX1_100, wiX5_baseKey, wlX5_baseKey, ⟨_, _, rfl⟩, pnX5_baseKey, ⟨by decide, by decide⟩, rfl, rfl⟩
theorem kX1_fillOffsets_83 : aLV mX1_fillOffsets 83 mX4_open 2 4 := ⟨wmX4_open, lmX1_83, wiX4_open, wlX4_open, ⟨_, _, rfl⟩, pnX4_open, ⟨by decide, by decide⟩, rfl, rfl⟩
theorem kX1_fillOffsets_109 : aLV mX1_fillOffsets 109 mX4_targetOf 2 4 := ⟨wmX4_targetOf, lmX1_109, wiX4_targetOf, wlX4_targetOf, ⟨_, _, rfl⟩, pnX4_targetOf, ⟨by decide, by decide⟩, rfl, rfl⟩
theorem kX1_joinReading_114 : aLV mX1_joinReading 114 mX1_strain 2 1 := ⟨wmX1_strain, lmX1_114, wiX1_strain, wlX1_strain, ⟨_, _, rfl⟩, pnX1_strain, ⟨by decide, by decide⟩, rfl, rfl⟩
theorem kX2_take_27 : aLV mX2_take 27 mX9_copy 1 9 := ⟨wmX9_copy, lmX2_27, wiX9_copy, wlX9_copy, ⟨_, _, rfl⟩, pnX9_copy, ⟨by decide, by decide⟩, rfl, rfl⟩
theorem kX2_addWhole_27 : aLV mX2_addWhole 27 mX9_copy 1 9 := ⟨wmX9_copy, lmX2_27, wiX9_copy, wlX9_copy, ⟨_, _, rfl⟩, pnX9_copy, ⟨by decide, by decide⟩, rfl, rfl⟩
theorem kX2_addWhole_31 : aLV mX2_addWhole 31 mX9_timesPlus 2 9 := ⟨wmX9_timesPlus, lmX2_31, wiX9_timesPlus, wlX9_timesPlus, ⟨_, _, rfl⟩, pnX9_timesPlus, ⟨by decide, by decide⟩, rfl, rfl⟩
theorem kX2_addWhole_35 : aLV mX2_addWhole 35 mX9_add 1 9 := ⟨wmX9_add, lmX2_35, wiX9_add, wlX9_add, ⟨_, _, rfl⟩, pnX9_add, ⟨by decide, by decide⟩, rfl, rfl⟩
theorem kX2_bringToLowestTerms_38 : aLV mX2_bringToLowestTerms 38 mX9_hasSize 1 9 := ⟨wmX9_hasSize, lmX2_38, wiX9_hasSize, wlX9_hasSize, ⟨_, _, rfl⟩, pnX9_hasSize, ⟨by decide, by decide⟩, rfl, rfl⟩
theorem kX2_bringToLowestTerms_42 : aLV mX2_bringToLowestTerms 42 mX9_become 1 9 := ⟨wmX9_become, lmX2_42, wiX9_become, wlX9_become, ⟨_, _, rfl⟩, pnX9_become, ⟨by decide, by decide⟩, rfl, rfl⟩
theorem kX2_bringToLowestTerms_46 : aLV mX2_bringToLowestTerms 46 mX9_twos 0 9 := ⟨wmX9_twos, lmX2_46, wiX9_twos, wlX9_twos, ⟨_, _, rfl⟩, pnX9_twos, ⟨by decide, by decide⟩, rfl, rfl⟩
theorem kX2_bringToLowestTerms_50 : aLS mX2_bringToLowestTerms 50 mJ9_min_7cf53 2 := ⟨wmJ9_min_7cf53, lmX2_50, wsJ9_min_7cf53, pnJ9_min_7cf53, ⟨by decide, by decide⟩, rfl, rfl⟩
theorem kX2_bringToLowestTerms_56 : aLV mX2_bringToLowestTerms 56 mX9_dropBits 1 9 := ⟨wmX9_dropBits, lmX2_56, wiX9_dropBits, wlX9_dropBits, ⟨_, _, rfl⟩, pnX9_dropBits, ⟨by decide, by decide⟩, rfl, rfl⟩
theorem kX2_bringToLowestTerms_59 : aLV mX2_bringToLowestTerms 59 mX2_findOddDivisor 0 2 := ⟨wmX2_findOddDivisor, lmX2_59, wiX2_findOddDivisor, wlX2_findOddDivisor, ⟨_, _, rfl⟩, pnX2_findOddDivisor, ⟨by decide, by decide⟩, rfl, rfl⟩
theorem kX2_bringToLowestTerms_62 : aLV mX2_bringToLowestTerms 62 mX9_divideByOdd 1 9 := ⟨wmX9_divideByOdd, lmX2_62, wiX9_divideByOdd, wlX9_divideByOdd, ⟨_, _, rfl⟩, pnX9_divideByOdd, ⟨by decide, by decide⟩, rfl, rfl⟩
theorem kX2_findOddDivisor_27 : aLV mX2_findOddDivisor 27 mX9_copy 1 9 := ⟨wmX9_copy, lmX2_27, wiX9_copy, wlX9_copy, ⟨_, _, rfl⟩, pnX9_copy, ⟨by decide, by decide⟩, rfl, rfl⟩
theorem kX2_findOddDivisor_46 : aLV mX2_findOddDivisor 46 mX9_twos 0 9 := ⟨wmX9_twos, lmX2_46, wiX9_twos, wlX9_twos, ⟨_, _, rfl⟩, pnX9_twos, ⟨by decide, by decide⟩, rfl, rfl⟩
theorem kX2_findOddDivisor_56 : aLV mX2_findOddDivisor 56 mX9_dropBits 1 9 := ⟨wmX9_dropBits, lmX2_56, wiX9_dropBits, wlX9_dropBits, ⟨_, _, rfl⟩, pnX9_dropBits, ⟨by decide, by decide⟩, rfl, rfl⟩
theorem kX2_findOddDivisor_65 : aLV mX2_findOddDivisor 65 mX9_compareSize 1 9 := ⟨wmX9_compareSize, lmX2_65, wiX9_compareSize, wlX9_compareSize, ⟨_, _, rfl⟩, pnX9_compareSize, ⟨by decide, by decide⟩, rfl, rfl⟩
theorem kX2_findOddDivisor_69 : aLV mX2_findOddDivisor 69 mX9_subtractSize 1 9 := ⟨wmX9_subtractSize, lmX2_69, wiX9_subtractSize, wlX9_subtractSize, ⟨_, _, rfl⟩, pnX9_subtractSize, ⟨by decide, by decide⟩, rfl, rfl⟩
theorem kX2_rounded_27 : aLV mX2_rounded 27 mX9_copy 1 9 := ⟨wmX9_copy, lmX2_27, wiX9_copy, wlX9_copy, ⟨_, _, rfl⟩, pnX9_copy, ⟨by decide, by decide⟩, rfl, rfl⟩
theorem kX2_rounded_31 : aLV mX2_rounded 31 mX9_timesPlus 2 9 := ⟨wmX9_timesPlus, lmX2_31, wiX9_timesPlus, wlX9_timesPlus, ⟨_, _, rfl⟩, pnX9_timesPlus, ⟨by decide, by decide⟩, rfl, rfl⟩
theorem kX2_rounded_35 : aLV mX2_rounded 35 mX9_add 1 9 := ⟨wmX9_add, lmX2_35, wiX9_add, wlX9_add, ⟨_, _, rfl⟩, pnX9_add, ⟨by decide, by decide⟩, rfl, rfl⟩
theorem kX2_rounded_72 : aLV mX2_rounded 72 mX2_quotientOfSizes 0 2 := ⟨wmX2_quotientOfSizes, lmX2_72, wiX2_quotientOfSizes, wlX2_quotientOfSizes, ⟨_, _, rfl⟩, pnX2_quotientOfSizes, ⟨by decide, by decide⟩, rfl, rfl⟩
theorem kX2_rounded_65 : aLV mX2_rounded 65 mX9_compareSize 1 9 := ⟨wmX9_compareSize, lmX2_65, wiX9_compareSize, wlX9_compareSize, ⟨_, _, rfl⟩, pnX9_compareSize, ⟨by decide, by decide⟩, rfl, rfl⟩
theorem kX2_quotientOfSizes_27 : aLV mX2_quotientOfSizes 27 mX9_copy 1 9 := ⟨wmX9_copy, lmX2_27, wiX9_copy, wlX9_copy, ⟨_, _, rfl⟩, pnX9_copy, ⟨by decide, by decide⟩, rfl, rfl⟩
theorem kX2_quotientOfSizes_31 : aLV mX2_quotientOfSizes 31 mX9_timesPlus 2 9 := ⟨wmX9_timesPlus, lmX2_31, wiX9_timesPlus, wlX9_timesPlus, ⟨_, _, rfl⟩, pnX9_timesPlus, ⟨by decide, by decide⟩, rfl, rfl⟩
theorem kX2_quotientOfSizes_65 : aLV mX2_quotientOfSizes 65 mX9_compareSize 1 9 := ⟨wmX9_compareSize, lmX2_65, wiX9_compareSize, wlX9_compareSize, ⟨_, _, rfl⟩, pnX9_compareSize, ⟨by decide, by decide⟩, rfl, rfl⟩
theorem kX3_init_33 : aLV mX3_init 33 mX3_append 3 3 := ⟨wmX3_append, lmX3_33, wiX3_append, wlX3_append, ⟨_, _, rfl⟩, pnX3_append, ⟨by decide, by decide⟩, rfl, rfl⟩
theorem kX3_init_37 : aLV mX3_init 37 mX3_store 3 3 := ⟨wmX3_store, lmX3_37, wiX3_store, wlX3_store, ⟨_, _, rfl⟩, pnX3_store, ⟨by decide, by decide⟩, rfl, rfl⟩
theorem kX3_isAllowed_41 : aLS mX3_isAllowed 41 mX3_hasSmallPrimes 1 := ⟨wmX3_hasSmallPrimes, lmX3_41, wsX3_hasSmallPrimes, pnX3_hasSmallPrimes, ⟨by decide, by decide⟩, rfl, rfl⟩
theorem kX3_isAllowed_45 : aLS mX3_isAllowed 45 mX3_shareSmallPrime 2 := ⟨wmX3_shareSmallPrime, lmX3_45, wsX3_shareSmallPrime, pnX3_shareSmallPrime, ⟨by decide, by decide⟩, rfl, rfl⟩
theorem kX3_append_37 : aLV mX3_append 37 mX3_store 3 3 := ⟨wmX3_store, lmX3_37, wiX3_store, wlX3_store, ⟨_, _, rfl⟩, pnX3_store, ⟨by decide, by decide⟩, rfl, rfl⟩
theorem kX3_store_52 : aLS mX3_store 52 mX3_powerIn 2 := ⟨wmX3_powerIn, lmX3_52, wsX3_powerIn, pnX3_powerIn, ⟨by decide, by decide⟩, rfl, rfl⟩
theorem kX3_harshness_59 : aLS mX3_harshness 59 mJ9_abs_0f7a4 1 := ⟨wmJ9_abs_0f7a4, lmX3_59, wsJ9_abs_0f7a4, pnJ9_abs_0f7a4, ⟨by decide, by decide⟩, rfl, rfl⟩
theorem kX4_has_23 : aLV mX4_has 23 mX5_hasSet 1 5 := ⟨wmX5_hasSet, lmX4_23, wiX5_hasSet, wlX5_hasSet, ⟨_, _, rfl⟩, pnX5_hasSet, ⟨by decide, by decide⟩, rfl, rfl⟩
theorem kX4_has_29 : aLV mX4_has 29 mX4_countOf 1 4 := ⟨wmX4_countOf, lmX4_29, wiX4_countOf, wlX4_countOf, ⟨_, _, rfl⟩, pnX4_countOf, ⟨by decide, by decide⟩, rfl, rfl⟩
theorem kX4_countOf_47 : aLV mX4_countOf 47 mX4_typeOf 2 4 := ⟨wmX4_typeOf, lmX4_47, wiX4_typeOf, wlX4_typeOf, ⟨_, _, rfl⟩, pnX4_typeOf, ⟨by decide, by decide⟩, rfl, rfl⟩
theorem kX4_leastCount_29 : aLV mX4_leastCount 29 mX4_countOf 1 4 := ⟨wmX4_countOf, lmX4_29, wiX4_countOf, wlX4_countOf, ⟨_, _, rfl⟩, pnX4_countOf, ⟨by decide, by decide⟩, rfl, rfl⟩
theorem kX4_leastCount_55 : aLS mX4_leastCount 55 mJ9_min_7cf53 2 := ⟨wmJ9_min_7cf53, lmX4_55, wsJ9_min_7cf53, pnJ9_min_7cf53, ⟨by decide, by decide⟩, rfl, rfl⟩
theorem kX4_greatestCount_29 : aLV mX4_greatestCount 29 mX4_countOf 1 4 := ⟨wmX4_countOf, lmX4_29, wiX4_countOf, wlX4_countOf, ⟨_, _, rfl⟩, pnX4_countOf, ⟨by decide, by decide⟩, rfl, rfl⟩
theorem kX4_greatestCount_60 : aLS mX4_greatestCount 60 mJ9_max_7cf53 2 := ⟨wmJ9_max_7cf53, lmX4_60, wsJ9_max_7cf53, pnJ9_max_7cf53, ⟨by decide, by decide⟩, rfl, rfl⟩
theorem kX4_typeOf_66 : aLV mX4_typeOf 66 mX4_stepsAboveBase 2 4 := ⟨wmX4_stepsAboveBase, lmX4_66, wiX4_stepsAboveBase, wlX4_stepsAboveBase, ⟨_, _, rfl⟩, pnX4_stepsAboveBase, ⟨by decide, by decide⟩, rfl, rfl⟩
theorem kX4_typeOf_69 : aLS mX4_typeOf 69 mJ9_floorMod_7cf53 2 := ⟨wmJ9_floorMod_7cf53, lmX4_69, wsJ9_floorMod_7cf53, pnJ9_floorMod_7cf53, ⟨by decide, by decide⟩, rfl, rfl⟩
theorem kX4_octavesOf_66 : aLV mX4_octavesOf 66 mX4_stepsAboveBase 2 4 := ⟨wmX4_stepsAboveBase, lmX4_66, wiX4_stepsAboveBase, wlX4_stepsAboveBase, ⟨_, _, rfl⟩, pnX4_stepsAboveBase, ⟨by decide, by decide⟩, rfl, rfl⟩
theorem kX4_open_47 : aLV mX4_open 47 mX4_typeOf 2 4 := ⟨wmX4_typeOf, lmX4_47, wiX4_typeOf, wlX4_typeOf, ⟨_, _, rfl⟩, pnX4_typeOf, ⟨by decide, by decide⟩, rfl, rfl⟩
theorem kX4_targetOf_73 : aLV mX4_targetOf 73 mX4_octavesOf 2 4 := ⟨wmX4_octavesOf, lmX4_73, wiX4_octavesOf, wlX4_octavesOf, ⟨_, _, rfl⟩, pnX4_octavesOf, ⟨by decide, by decide⟩, rfl, rfl⟩
theorem kX4_deviationOf_77 : aLV mX4_deviationOf 77 mX4_targetOf 2 4 := ⟨wmX4_targetOf, lmX4_77, wiX4_targetOf, wlX4_targetOf, ⟨_, _, rfl⟩, pnX4_targetOf, ⟨by decide, by decide⟩, rfl, rfl⟩
theorem kX4_deviationOf_66 : aLV mX4_deviationOf 66 mX4_stepsAboveBase 2 4 := ⟨wmX4_stepsAboveBase, lmX4_66, wiX4_stepsAboveBase, wlX4_stepsAboveBase, ⟨_, _, rfl⟩, pnX4_stepsAboveBase, ⟨by decide, by decide⟩, rfl, rfl⟩
theorem kX4_harshness_80 : aLV mX4_harshness 80 mX3_harshness 2 3 := ⟨wmX3_harshness, lmX4_80, wiX3_harshness, wlX3_harshness, ⟨_, _, rfl⟩, pnX3_harshness, ⟨by decide, by decide⟩, rfl, rfl⟩
theorem kX5_isPart_53 : aLV mX5_isPart 53 mX5_hasSet 1 5 := ⟨wmX5_hasSet, lmX5_53, wiX5_hasSet, wlX5_hasSet, ⟨_, _, rfl⟩, pnX5_hasSet, ⟨by decide, by decide⟩, rfl, rfl⟩
theorem kX5_isPart_57 : aLV mX5_isPart 57 mX5_hasNote 1 5 := ⟨wmX5_hasNote, lmX5_57, wiX5_hasNote, wlX5_hasNote, ⟨_, _, rfl⟩, pnX5_hasNote, ⟨by decide, by decide⟩, rfl, rfl⟩
theorem kX5_isPart_60 : aLV mX5_isPart 60 mX5_isIn 2 5 := ⟨wmX5_isIn, lmX5_60, wiX5_isIn, wlX5_isIn, ⟨_, _, rfl⟩, pnX5_isIn, ⟨by decide, by decide⟩, rfl, rfl⟩
theorem kX5_isIn_64 : aLV mX5_isIn 64 mX5_isAt 2 5 := ⟨wmX5_isAt, lmX5_64, wiX5_isAt, wlX5_isAt, ⟨_, _, rfl⟩, pnX5_isAt, ⟨by decide, by decide⟩, rfl, rfl⟩
theorem kX5_isFullFor_67 : aLV mX5_isFullFor 67 mX5_soundingAt 1 5 := ⟨wmX5_soundingAt, lmX5_67, wiX5_soundingAt, wlX5_soundingAt, ⟨_, _, rfl⟩, pnX5_soundingAt, ⟨by decide, by decide⟩, rfl, rfl⟩
theorem kX5_soundingAt_64 : aLV mX5_soundingAt 64 mX5_isAt 2 5 := ⟨wmX5_isAt, lmX5_64, wiX5_isAt, wlX5_isAt, ⟨_, _, rfl⟩, pnX5_isAt, ⟨by decide, by decide⟩, rfl, rfl⟩
theorem kX5_append_71 : aLV mX5_append 71 mX5_findSets 0 5 := ⟨wmX5_findSets, lmX5_71, wiX5_findSets, wlX5_findSets, ⟨_, _, rfl⟩, pnX5_findSets, ⟨by decide, by decide⟩, rfl, rfl⟩
theorem kX5_append_74 : aLV mX5_append 74 mX5_numberVariables 0 5 := ⟨wmX5_numberVariables, lmX5_74, wiX5_numberVariables, wlX5_numberVariables, ⟨_, _, rfl⟩, pnX5_numberVariables, ⟨by decide, by decide⟩, rfl, rfl⟩
theorem kX5_tie_74 : aLV mX5_tie 74 mX5_numberVariables 0 5 := ⟨wmX5_numberVariables, lmX5_74, wiX5_numberVariables, wlX5_numberVariables, ⟨_, _, rfl⟩, pnX5_numberVariables, ⟨by decide, by decide⟩, rfl, rfl⟩
theorem kX5_findSets_80 : aLV mX5_findSets 80 mX5_tickAfter 1 5 := ⟨wmX5_tickAfter, lmX5_80, wiX5_tickAfter, wlX5_tickAfter, ⟨_, _, rfl⟩, pnX5_tickAfter, ⟨by decide, by decide⟩, rfl, rfl⟩
theorem kX5_findSets_67 : aLV mX5_findSets 67 mX5_soundingAt 1 5 := ⟨wmX5_soundingAt, lmX5_67, wiX5_soundingAt, wlX5_soundingAt, ⟨_, _, rfl⟩, pnX5_soundingAt, ⟨by decide, by decide⟩, rfl, rfl⟩
theorem kX5_findSets_83 : aLV mX5_findSets 83 mX5_appendSet 2 5 := ⟨wmX5_appendSet, lmX5_83, wiX5_appendSet, wlX5_appendSet, ⟨_, _, rfl⟩, pnX5_appendSet, ⟨by decide, by decide⟩, rfl, rfl⟩
theorem kX5_tickAfter_87 : aLS mX5_tickAfter 87 mJ9_min_7cf53 2 := ⟨wmJ9_min_7cf53, lmX5_87, wsJ9_min_7cf53, pnJ9_min_7cf53, ⟨by decide, by decide⟩, rfl, rfl⟩
theorem kX5_appendSet_64 : aLV mX5_appendSet 64 mX5_isAt 2 5 := ⟨wmX5_isAt, lmX5_64, wiX5_isAt, wlX5_isAt, ⟨_, _, rfl⟩, pnX5_isAt, ⟨by decide, by decide⟩, rfl, rfl⟩
theorem kX5_appendSet_93 : aLS mX5_appendSet 93 mJ9_max_7cf53 2 := ⟨wmJ9_max_7cf53, lmX5_93, wsJ9_max_7cf53, pnJ9_max_7cf53, ⟨by decide, by decide⟩, rfl, rfl⟩
theorem kX5_numberVariables_60 : aLV mX5_numberVariables 60 mX5_isIn 2 5 := ⟨wmX5_isIn, lmX5_60, wiX5_isIn, wlX5_isIn, ⟨_, _, rfl⟩, pnX5_isIn, ⟨by decide, by decide⟩, rfl, rfl⟩
theorem kX5_numberVariables_96 : aLV mX5_numberVariables 96 mX5_variableOf 2 5 := ⟨wmX5_variableOf, lmX5_96, wiX5_variableOf, wlX5_variableOf, ⟨_, _, rfl⟩, pnX5_variableOf, ⟨by decide, by decide⟩, rfl, rfl⟩
theorem kX5_findCommon_53 : aLV mX5_findCommon 53 mX5_hasSet 1 5 := ⟨wmX5_hasSet, lmX5_53, wiX5_hasSet, wlX5_hasSet, ⟨_, _, rfl⟩, pnX5_hasSet, ⟨by decide, by decide⟩, rfl, rfl⟩
theorem kX5_findCommon_60 : aLV mX5_findCommon 60 mX5_isIn 2 5 := ⟨wmX5_isIn, lmX5_60, wiX5_isIn, wlX5_isIn, ⟨_, _, rfl⟩, pnX5_isIn, ⟨by decide, by decide⟩, rfl, rfl⟩
theorem kX6_run_48 : aLV mX6_run 48 mX6_solveBy 2 6 := ⟨wmX6_solveBy, lmX6_48, wiX6_solveBy, wlX6_solveBy, ⟨_, _, rfl⟩, pnX6_solveBy, ⟨by decide, by decide⟩, rfl, rfl⟩
theorem kX6_run_52 : aLV mX6_run 52 mX6_useModulus 1 6 := ⟨wmX6_useModulus, lmX6_52, wiX6_useModulus, wlX6_useModulus, ⟨_, _, rfl⟩, pnX6_useModulus, ⟨by decide, by decide⟩, rfl, rfl⟩
theorem kX6_run_61 : aLV mX6_run 61 mX6_putTogether 1 6 := ⟨wmX6_putTogether, lmX6_61, wiX6_putTogether, wlX6_putTogether, ⟨_, _, rfl⟩, pnX6_putTogether, ⟨by decide, by decide⟩, rfl, rfl⟩
theorem kX6_useModulus_65 : aLS mX6_useModulus 65 mX6_inverse 2 := ⟨wmX6_inverse, lmX6_65, wsX6_inverse, pnX6_inverse, ⟨by decide, by decide⟩, rfl, rfl⟩
theorem kX6_solveBy_69 : aLV mX6_solveBy 69 mX6_load 1 6 := ⟨wmX6_load, lmX6_69, wiX6_load, wlX6_load, ⟨_, _, rfl⟩, pnX6_load, ⟨by decide, by decide⟩, rfl, rfl⟩
theorem kX6_solveBy_72 : aLV mX6_solveBy 72 mX6_eliminate 1 6 := ⟨wmX6_eliminate, lmX6_72, wiX6_eliminate, wlX6_eliminate, ⟨_, _, rfl⟩, pnX6_eliminate, ⟨by decide, by decide⟩, rfl, rfl⟩
theorem kX6_solveBy_76 : aLS mX6_solveBy 76 mJ9_floorMod_f86c9 2 := ⟨wmJ9_floorMod_f86c9, lmX6_76, wsJ9_floorMod_f86c9, pnJ9_floorMod_f86c9, ⟨by decide, by decide⟩, rfl, rfl⟩
theorem kX6_load_76 : aLS mX6_load 76 mJ9_floorMod_f86c9 2 := ⟨wmJ9_floorMod_f86c9, lmX6_76, wsJ9_floorMod_f86c9, pnJ9_floorMod_f86c9, ⟨by decide, by decide⟩, rfl, rfl⟩
theorem kX6_eliminate_91 : aLV mX6_eliminate 91 mX6_findRow 1 6 := ⟨wmX6_findRow, lmX6_91, wiX6_findRow, wlX6_findRow, ⟨_, _, rfl⟩, pnX6_findRow, ⟨by decide, by decide⟩, rfl, rfl⟩
theorem kX6_eliminate_95 : aLV mX6_eliminate 95 mX6_swapRows 2 6 := ⟨wmX6_swapRows, lmX6_95, wiX6_swapRows, wlX6_swapRows, ⟨_, _, rfl⟩, pnX6_swapRows, ⟨by decide, by decide⟩, rfl, rfl⟩
theorem kX6_eliminate_65 : aLS mX6_eliminate 65 mX6_inverse 2 := ⟨wmX6_inverse, lmX6_65, wsX6_inverse, pnX6_inverse, ⟨by decide, by decide⟩, rfl, rfl⟩
theorem kX6_eliminate_99 : aLV mX6_eliminate 99 mX6_subtractRow 3 6 := ⟨wmX6_subtractRow, lmX6_99, wiX6_subtractRow, wlX6_subtractRow, ⟨_, _, rfl⟩, pnX6_subtractRow, ⟨by decide, by decide⟩, rfl, rfl⟩
theorem kX6_putTogether_105 : aLV mX6_putTogether 105 mX6_findDigits 2 6 := ⟨wmX6_findDigits, lmX6_105, wiX6_findDigits, wlX6_findDigits, ⟨_, _, rfl⟩, pnX6_findDigits, ⟨by decide, by decide⟩, rfl, rfl⟩
theorem kX6_putTogether_108 : aLV mX6_putTogether 108 mX9_become 1 9 := ⟨wmX9_become, lmX6_108, wiX9_become, wlX9_become, ⟨_, _, rfl⟩, pnX9_become, ⟨by decide, by decide⟩, rfl, rfl⟩
theorem kX6_putTogether_111 : aLV mX6_putTogether 111 mX9_timesPlus 2 9 := ⟨wmX9_timesPlus, lmX6_111, wiX9_timesPlus, wlX9_timesPlus, ⟨_, _, rfl⟩, pnX9_timesPlus, ⟨by decide, by decide⟩, rfl, rfl⟩
theorem kX6_findDigits_76 : aLS mX6_findDigits 76 mJ9_floorMod_f86c9 2 := ⟨wmJ9_floorMod_f86c9, lmX6_76, wsJ9_floorMod_f86c9, pnJ9_floorMod_f86c9, ⟨by decide, by decide⟩, rfl, rfl⟩
theorem kX7_gather_39 : aLV mX7_gather 39 mX7_reset 0 7 := ⟨wmX7_reset, lmX7_39, wiX7_reset, wlX7_reset, ⟨_, _, rfl⟩, pnX7_reset, ⟨by decide, by decide⟩, rfl, rfl⟩
theorem kX7_gather_48 : aLV mX7_gather 48 mX7_addChord 1 7 := ⟨wmX7_addChord, lmX7_48, wiX7_addChord, wlX7_addChord, ⟨_, _, rfl⟩, pnX7_addChord, ⟨by decide, by decide⟩, rfl, rfl⟩
theorem kX7_gather_52 : aLV mX7_gather 52 mX7_addMoves 1 7 := ⟨wmX7_addMoves, lmX7_52, wiX7_addMoves, wlX7_addMoves, ⟨_, _, rfl⟩, pnX7_addMoves, ⟨by decide, by decide⟩, rfl, rfl⟩
theorem kX7_gather_55 : aLV mX7_gather 55 mX7_addEquals 1 7 := ⟨wmX7_addEquals, lmX7_55, wiX7_addEquals, wlX7_addEquals, ⟨_, _, rfl⟩, pnX7_addEquals, ⟨by decide, by decide⟩, rfl, rfl⟩
theorem kX7_gather_58 : aLV mX7_gather 58 mX7_fixLoose 0 7 := ⟨wmX7_fixLoose, lmX7_58, wiX7_fixLoose, wlX7_fixLoose, ⟨_, _, rfl⟩, pnX7_fixLoose, ⟨by decide, by decide⟩, rfl, rfl⟩
theorem kX7_reset_64 : aLS mX7_reset 64 mJ9_min_7cf53 2 := ⟨wmJ9_min_7cf53, lmX7_64, wsJ9_min_7cf53, pnJ9_min_7cf53, ⟨by decide, by decide⟩, rfl, rfl⟩
theorem kX7_reset_80 : aLS mX7_reset 80 mJ7_fill_d0a16 2 := ⟨wmJ7_fill_d0a16, lmX7_80, wsJ7_fill_d0a16, pnJ7_fill_d0a16, ⟨by decide, by decide⟩, rfl, rfl⟩
theorem kX7_addChord_91 : aLV mX7_addChord 91 mX4_open 2 4 := ⟨wmX4_open, lmX7_91, wiX4_open, wlX4_open, ⟨_, _, rfl⟩, pnX4_open, ⟨by decide, by decide⟩, rfl, rfl⟩
theorem kX7_addChord_103 : aLV mX7_addChord 103 mX4_deviationOf 2 4 := ⟨wmX4_deviationOf, lmX7_103, wiX4_deviationOf, wlX4_deviationOf, ⟨_, _, rfl⟩, pnX4_deviationOf, ⟨by decide, by decide⟩, rfl, rfl⟩
theorem kX7_addChord_106 : aLV mX7_addChord 106 mX5_variableOf 2 5 := ⟨wmX5_variableOf, lmX7_106, wiX5_variableOf, wlX5_variableOf, ⟨_, _, rfl⟩, pnX5_variableOf, ⟨by decide, by decide⟩, rfl, rfl⟩
theorem kX7_addChord_109 : aLV mX7_addChord 109 mX7_addPair 4 7 := ⟨wmX7_addPair, lmX7_109, wiX7_addPair, wlX7_addPair, ⟨_, _, rfl⟩, pnX7_addPair, ⟨by decide, by decide⟩, rfl, rfl⟩
theorem kX7_addMoves_113 : aLV mX7_addMoves 113 mX5_findCommon 1 5 := ⟨wmX5_findCommon, lmX7_113, wiX5_findCommon, wlX5_findCommon, ⟨_, _, rfl⟩, pnX5_findCommon, ⟨by decide, by decide⟩, rfl, rfl⟩
theorem kX7_addMoves_106 : aLV mX7_addMoves 106 mX5_variableOf 2 5 := ⟨wmX5_variableOf, lmX7_106, wiX5_variableOf, wlX5_variableOf, ⟨_, _, rfl⟩, pnX5_variableOf, ⟨by decide, by decide⟩, rfl, rfl⟩
theorem kX7_addMoves_109 : aLV mX7_addMoves 109 mX7_addPair 4 7 := ⟨wmX7_addPair, lmX7_109, wiX7_addPair, wlX7_addPair, ⟨_, _, rfl⟩, pnX7_addPair, ⟨by decide, by decide⟩, rfl, rfl⟩
theorem kX7_addEquals_106 : aLV mX7_addEquals 106 mX5_variableOf 2 5 := ⟨wmX5_variableOf, lmX7_106, wiX5_variableOf, wlX5_variableOf, ⟨_, _, rfl⟩, pnX5_variableOf, ⟨by decide, by decide⟩, rfl, rfl⟩
theorem kX7_fixLoose_126 : aLV mX7_fixLoose 126 mX7_findLasts 0 7 := ⟨wmX7_findLasts, lmX7_126, wiX7_findLasts, wlX7_findLasts, ⟨_, _, rfl⟩, pnX7_findLasts, ⟨by decide, by decide⟩, rfl, rfl⟩
theorem kX7_fixLoose_129 : aLV mX7_fixLoose 129 mX7_fix 1 7 := ⟨wmX7_fix, lmX7_129, wiX7_fix, wlX7_fix, ⟨_, _, rfl⟩, pnX7_fix, ⟨by decide, by decide⟩, rfl, rfl⟩
theorem kX7_findLasts_132 : aLV mX7_findLasts 132 mX7_pullLast 1 7 := ⟨wmX7_pullLast, lmX7_132, wiX7_pullLast, wlX7_pullLast, ⟨_, _, rfl⟩, pnX7_pullLast, ⟨by decide, by decide⟩, rfl, rfl⟩
theorem kX7_pullLast_136 : aLS mX7_pullLast 136 mJ9_max_7cf53 2 := ⟨wmJ9_max_7cf53, lmX7_136, wsJ9_max_7cf53, pnJ9_max_7cf53, ⟨by decide, by decide⟩, rfl, rfl⟩
theorem kX8_write_15 : aLV mX8_write 15 mX2_bringToLowestTerms 0 2 := ⟨wmX2_bringToLowestTerms, lmX8_15, wiX2_bringToLowestTerms, wlX2_bringToLowestTerms, ⟨_, _, rfl⟩, pnX2_bringToLowestTerms, ⟨by decide, by decide⟩, rfl, rfl⟩
theorem kX8_write_34 : aLV mX8_write 34 mX8_append 1 8 := ⟨wmX8_append, lmX8_34, wiX8_append, wlX8_append, ⟨_, _, rfl⟩, pnX8_append, ⟨by decide, by decide⟩, rfl, rfl⟩
theorem kX8_write_38 : aLV mX8_write 38 mX8_appendSize 1 8 := ⟨wmX8_appendSize, lmX8_38, wiX8_appendSize, wlX8_appendSize, ⟨_, _, rfl⟩, pnX8_appendSize, ⟨by decide, by decide⟩, rfl, rfl⟩
theorem kX8_write_45 : aLV mX8_write 45 mX9_hasSize 1 9 := ⟨wmX9_hasSize, lmX8_45, wiX9_hasSize, wlX9_hasSize, ⟨_, _, rfl⟩, pnX9_hasSize, ⟨by decide, by decide⟩, rfl, rfl⟩
theorem kX8_appendSize_49 : aLV mX8_appendSize 49 mX9_dropDigit 0 9 := ⟨wmX9_dropDigit, lmX8_49, wiX9_dropDigit, wlX9_dropDigit, ⟨_, _, rfl⟩, pnX9_dropDigit, ⟨by decide, by decide⟩, rfl, rfl⟩
theorem kX8_appendSize_34 : aLV mX8_appendSize 34 mX8_append 1 8 := ⟨wmX8_append, lmX8_34, wiX8_append, wlX8_append, ⟨_, _, rfl⟩, pnX8_append, ⟨by decide, by decide⟩, rfl, rfl⟩
theorem kX8_appendSize_45 : aLV mX8_appendSize 45 mX9_hasSize 1 9 := ⟨wmX9_hasSize, lmX8_45, wiX9_hasSize, wlX9_hasSize, ⟨_, _, rfl⟩, pnX9_hasSize, ⟨by decide, by decide⟩, rfl, rfl⟩
theorem kX9_become_15 : aLS mX9_become 15 mJ7_fill_53178 2 := ⟨wmJ7_fill_53178, lmX9_15, wsJ7_fill_53178, pnJ7_fill_53178, ⟨by decide, by decide⟩, rfl, rfl⟩
theorem kX9_add_33 : aLV mX9_add 33 mX9_combine 3 9 := ⟨wmX9_combine, lmX9_33, wiX9_combine, wlX9_combine, ⟨_, _, rfl⟩, pnX9_combine, ⟨by decide, by decide⟩, rfl, rfl⟩
theorem kX9_add_37 : aLV mX9_add 37 mX9_compareSize 1 9 := ⟨wmX9_compareSize, lmX9_37, wiX9_compareSize, wlX9_compareSize, ⟨_, _, rfl⟩, pnX9_compareSize, ⟨by decide, by decide⟩, rfl, rfl⟩
theorem kX9_add_41 : aLV mX9_add 41 mX9_hasSize 1 9 := ⟨wmX9_hasSize, lmX9_41, wiX9_hasSize, wlX9_hasSize, ⟨_, _, rfl⟩, pnX9_hasSize, ⟨by decide, by decide⟩, rfl, rfl⟩
theorem kX9_subtractSize_33 : aLV mX9_subtractSize 33 mX9_combine 3 9 := ⟨wmX9_combine, lmX9_33, wiX9_combine, wlX9_combine, ⟨_, _, rfl⟩, pnX9_combine, ⟨by decide, by decide⟩, rfl, rfl⟩
theorem kX9_twos_46 : aLS mX9_twos 46 mJ6_bitCount_0f7a4 1 := ⟨wmJ6_bitCount_0f7a4, lmX9_46, wsJ6_bitCount_0f7a4, pnJ6_bitCount_0f7a4, ⟨by decide, by decide⟩, rfl, rfl⟩
theorem kX9_dropBits_52 : aLV mX9_dropBits 52 mX9_limbAt 1 9 := ⟨wmX9_limbAt, lmX9_52, wiX9_limbAt, wlX9_limbAt, ⟨_, _, rfl⟩, pnX9_limbAt, ⟨by decide, by decide⟩, rfl, rfl⟩
theorem kX9_divideByOdd_57 : aLV mX9_divideByOdd 57 mX9_inverseOfLowest 0 9 := ⟨wmX9_inverseOfLowest, lmX9_57, wiX9_inverseOfLowest, wlX9_inverseOfLowest, ⟨_, _, rfl⟩, pnX9_inverseOfLowest, ⟨by decide, by decide⟩, rfl, rfl⟩
theorem kX10_note_95 : aLV mX10_note 95 mX5_isFullFor 2 5 := ⟨wmX5_isFullFor, lmX10_95, wiX5_isFullFor, wlX5_isFullFor, ⟨_, _, rfl⟩, pnX5_isFullFor, ⟨by decide, by decide⟩, rfl, rfl⟩
theorem kX10_note_99 : aLV mX10_note 99 mX10_forget 0 10 := ⟨wmX10_forget, lmX10_99, wiX10_forget, wlX10_forget, ⟨_, _, rfl⟩, pnX10_forget, ⟨by decide, by decide⟩, rfl, rfl⟩
theorem kX10_note_102 : aLV mX10_note 102 mX5_append 3 5 := ⟨wmX5_append, lmX10_102, wiX5_append, wlX5_append, ⟨_, _, rfl⟩, pnX5_append, ⟨by decide, by decide⟩, rfl, rfl⟩
theorem kX10_clear_99 : aLV mX10_clear 99 mX10_forget 0 10 := ⟨wmX10_forget, lmX10_99, wiX10_forget, wlX10_forget, ⟨_, _, rfl⟩, pnX10_forget, ⟨by decide, by decide⟩, rfl, rfl⟩
theorem kX10_clear_106 : aLV mX10_clear 106 mX5_removeAll 0 5 := ⟨wmX5_removeAll, lmX10_106, wiX5_removeAll, wlX5_removeAll, ⟨_, _, rfl⟩, pnX5_removeAll, ⟨by decide, by decide⟩, rfl, rfl⟩
theorem kX10_bind_110 : aLV mX10_bind 110 mX5_hasNote 1 5 := ⟨wmX5_hasNote, lmX10_110, wiX5_hasNote, wlX5_hasNote, ⟨_, _, rfl⟩, pnX5_hasNote, ⟨by decide, by decide⟩, rfl, rfl⟩
theorem kX10_bind_99 : aLV mX10_bind 99 mX10_forget 0 10 := ⟨wmX10_forget, lmX10_99, wiX10_forget, wlX10_forget, ⟨_, _, rfl⟩, pnX10_forget, ⟨by decide, by decide⟩, rfl, rfl⟩
theorem kX10_bind_114 : aLV mX10_bind 114 mX5_tie 2 5 := ⟨wmX5_tie, lmX10_114, wiX5_tie, wlX5_tie, ⟨_, _, rfl⟩, pnX5_tie, ⟨by decide, by decide⟩, rfl, rfl⟩
theorem kX10_ratio_118 : aLS mX10_ratio 118 mX3_isAllowed 2 := ⟨wmX3_isAllowed, lmX10_118, wsX3_isAllowed, pnX3_isAllowed, ⟨by decide, by decide⟩, rfl, rfl⟩
theorem kX10_ratio_121 : aLV mX10_ratio 121 mX3_holds 3 3 := ⟨wmX3_holds, lmX10_121, wiX3_holds, wlX3_holds, ⟨_, _, rfl⟩, pnX3_holds, ⟨by decide, by decide⟩, rfl, rfl⟩
theorem kX10_ratio_99 : aLV mX10_ratio 99 mX10_forget 0 10 := ⟨wmX10_forget, lmX10_99, wiX10_forget, wlX10_forget, ⟨_, _, rfl⟩, pnX10_forget, ⟨by decide, by decide⟩, rfl, rfl⟩
theorem kX10_ratio_128 : aLV mX10_ratio 128 mX3_append 3 3 := ⟨wmX3_append, lmX10_128, wiX3_append, wlX3_append, ⟨_, _, rfl⟩, pnX3_append, ⟨by decide, by decide⟩, rfl, rfl⟩
theorem kX10_empty_99 : aLV mX10_empty 99 mX10_forget 0 10 := ⟨wmX10_forget, lmX10_99, wiX10_forget, wlX10_forget, ⟨_, _, rfl⟩, pnX10_forget, ⟨by decide, by decide⟩, rfl, rfl⟩
theorem kX10_empty_129 : aLV mX10_empty 129 mX3_removeAll 1 3 := ⟨wmX3_removeAll, lmX10_129, wiX3_removeAll, wlX3_removeAll, ⟨_, _, rfl⟩, pnX3_removeAll, ⟨by decide, by decide⟩, rfl, rfl⟩
theorem kX10_weight_99 : aLV mX10_weight 99 mX10_forget 0 10 := ⟨wmX10_forget, lmX10_99, wiX10_forget, wlX10_forget, ⟨_, _, rfl⟩, pnX10_forget, ⟨by decide, by decide⟩, rfl, rfl⟩
theorem kX10_set_139 : aLV mX10_set 139 mX5_hasSet 1 5 := ⟨wmX5_hasSet, lmX10_139, wiX5_hasSet, wlX5_hasSet, ⟨_, _, rfl⟩, pnX5_hasSet, ⟨by decide, by decide⟩, rfl, rfl⟩
theorem kX10_set_154 : aLV mX10_set 154 mX4_countOf 1 4 := ⟨wmX4_countOf, lmX10_154, wiX4_countOf, wlX4_countOf, ⟨_, _, rfl⟩, pnX4_countOf, ⟨by decide, by decide⟩, rfl, rfl⟩
theorem kX10_sounds_139 : aLV mX10_sounds 139 mX5_hasSet 1 5 := ⟨wmX5_hasSet, lmX10_139, wiX5_hasSet, wlX5_hasSet, ⟨_, _, rfl⟩, pnX5_hasSet, ⟨by decide, by decide⟩, rfl, rfl⟩
theorem kX10_sounds_110 : aLV mX10_sounds 110 mX5_hasNote 1 5 := ⟨wmX5_hasNote, lmX10_110, wiX5_hasNote, wlX5_hasNote, ⟨_, _, rfl⟩, pnX5_hasNote, ⟨by decide, by decide⟩, rfl, rfl⟩
theorem kX10_sounds_157 : aLV mX10_sounds 157 mX5_isIn 2 5 := ⟨wmX5_isIn, lmX10_157, wiX5_isIn, wlX5_isIn, ⟨_, _, rfl⟩, pnX5_isIn, ⟨by decide, by decide⟩, rfl, rfl⟩
theorem kX10_reading_160 : aLV mX10_reading 160 mX4_has 2 4 := ⟨wmX4_has, lmX10_160, wiX4_has, wlX4_has, ⟨_, _, rfl⟩, pnX4_has, ⟨by decide, by decide⟩, rfl, rfl⟩
theorem kX10_reading_163 : aLV mX10_reading 163 mX5_isPart 2 5 := ⟨wmX5_isPart, lmX10_163, wiX5_isPart, wlX5_isPart, ⟨_, _, rfl⟩, pnX5_isPart, ⟨by decide, by decide⟩, rfl, rfl⟩
theorem kX10_reading_166 : aLV mX10_reading 166 mX4_open 2 4 := ⟨wmX4_open, lmX10_166, wiX4_open, wlX4_open, ⟨_, _, rfl⟩, pnX4_open, ⟨by decide, by decide⟩, rfl, rfl⟩
theorem kX10_reading_179 : aLV mX10_reading 179 mX4_targetOf 2 4 := ⟨wmX4_targetOf, lmX10_179, wiX4_targetOf, wlX4_targetOf, ⟨_, _, rfl⟩, pnX4_targetOf, ⟨by decide, by decide⟩, rfl, rfl⟩
theorem kX10_harsh_160 : aLV mX10_harsh 160 mX4_has 2 4 := ⟨wmX4_has, lmX10_160, wiX4_has, wlX4_has, ⟨_, _, rfl⟩, pnX4_has, ⟨by decide, by decide⟩, rfl, rfl⟩
theorem kX10_harsh_166 : aLV mX10_harsh 166 mX4_open 2 4 := ⟨wmX4_open, lmX10_166, wiX4_open, wlX4_open, ⟨_, _, rfl⟩, pnX4_open, ⟨by decide, by decide⟩, rfl, rfl⟩
theorem kX10_harsh_183 : aLV mX10_harsh 183 mX4_harshness 1 4 := ⟨wmX4_harshness, lmX10_183, wiX4_harshness, wlX4_harshness, ⟨_, _, rfl⟩, pnX4_harshness, ⟨by decide, by decide⟩, rfl, rfl⟩
theorem kX10_choose_186 : aLV mX10_choose 186 mX4_leastCount 0 4 := ⟨wmX4_leastCount, lmX10_186, wiX4_leastCount, wlX4_leastCount, ⟨_, _, rfl⟩, pnX4_leastCount, ⟨by decide, by decide⟩, rfl, rfl⟩
theorem kX10_choose_191 : aLV mX10_choose 191 mX4_greatestCount 0 4 := ⟨wmX4_greatestCount, lmX10_191, wiX4_greatestCount, wlX4_greatestCount, ⟨_, _, rfl⟩, pnX4_greatestCount, ⟨by decide, by decide⟩, rfl, rfl⟩
theorem kX10_choose_203 : aLV mX10_choose 203 mX1_make 0 1 := ⟨wmX1_make, lmX10_203, wiX1_make, wlX1_make, ⟨_, _, rfl⟩, pnX1_make, ⟨by decide, by decide⟩, rfl, rfl⟩
theorem kX10_choose_207 : aLV mX10_choose 207 mX0_make 0 0 := ⟨wmX0_make, lmX10_207, wiX0_make, wlX0_make, ⟨_, _, rfl⟩, pnX0_make, ⟨by decide, by decide⟩, rfl, rfl⟩
theorem kX10_chosen_139 : aLV mX10_chosen 139 mX5_hasSet 1 5 := ⟨wmX5_hasSet, lmX10_139, wiX5_hasSet, wlX5_hasSet, ⟨_, _, rfl⟩, pnX5_hasSet, ⟨by decide, by decide⟩, rfl, rfl⟩
theorem kX10_solve_215 : aLV mX10_solve 215 mX7_gather 0 7 := ⟨wmX7_gather, lmX10_215, wiX7_gather, wlX7_gather, ⟨_, _, rfl⟩, pnX7_gather, ⟨by decide, by decide⟩, rfl, rfl⟩
theorem kX10_solve_218 : aLV mX10_solve 218 mX6_run 0 6 := ⟨wmX6_run, lmX10_218, wiX6_run, wlX6_run, ⟨_, _, rfl⟩, pnX6_run, ⟨by decide, by decide⟩, rfl, rfl⟩
theorem kX10_variable_163 : aLV mX10_variable 163 mX5_isPart 2 5 := ⟨wmX5_isPart, lmX10_163, wiX5_isPart, wlX5_isPart, ⟨_, _, rfl⟩, pnX5_isPart, ⟨by decide, by decide⟩, rfl, rfl⟩
theorem kX10_variable_221 : aLV mX10_variable 221 mX5_variableOf 2 5 := ⟨wmX5_variableOf, lmX10_221, wiX5_variableOf, wlX5_variableOf, ⟨_, _, rfl⟩, pnX5_variableOf, ⟨by decide, by decide⟩, rfl, rfl⟩
theorem kX10_place_227 : aLV mX10_place 227 mX10_takeMove 2 10 := ⟨wmX10_takeMove, lmX10_227, wiX10_takeMove, wlX10_takeMove, ⟨_, _, rfl⟩, pnX10_takeMove, ⟨by decide, by decide⟩, rfl, rfl⟩
theorem kX10_place_230 : aLV mX10_place 230 mX5_equalOf 1 5 := ⟨wmX5_equalOf, lmX10_230, wiX5_equalOf, wlX5_equalOf, ⟨_, _, rfl⟩, pnX5_equalOf, ⟨by decide, by decide⟩, rfl, rfl⟩
theorem kX10_place_233 : aLV mX10_place 233 mX2_addWhole 1 2 := ⟨wmX2_addWhole, lmX10_233, wiX2_addWhole, wlX2_addWhole, ⟨_, _, rfl⟩, pnX2_addWhole, ⟨by decide, by decide⟩, rfl, rfl⟩
theorem kX10_place_237 : aLV mX10_place 237 mX8_write 1 8 := ⟨wmX8_write, lmX10_237, wiX8_write, wlX8_write, ⟨_, _, rfl⟩, pnX8_write, ⟨by decide, by decide⟩, rfl, rfl⟩
theorem kX10_move_227 : aLV mX10_move 227 mX10_takeMove 2 10 := ⟨wmX10_takeMove, lmX10_227, wiX10_takeMove, wlX10_takeMove, ⟨_, _, rfl⟩, pnX10_takeMove, ⟨by decide, by decide⟩, rfl, rfl⟩
theorem kX10_move_237 : aLV mX10_move 237 mX8_write 1 8 := ⟨wmX8_write, lmX10_237, wiX8_write, wlX8_write, ⟨_, _, rfl⟩, pnX8_write, ⟨by decide, by decide⟩, rfl, rfl⟩
theorem kX10_energy_245 : aLV mX10_energy 245 mX2_take 2 2 := ⟨wmX2_take, lmX10_245, wiX2_take, wlX2_take, ⟨_, _, rfl⟩, pnX2_take, ⟨by decide, by decide⟩, rfl, rfl⟩
theorem kX10_energy_237 : aLV mX10_energy 237 mX8_write 1 8 := ⟨wmX8_write, lmX10_237, wiX8_write, wlX8_write, ⟨_, _, rfl⟩, pnX8_write, ⟨by decide, by decide⟩, rfl, rfl⟩
theorem kX10_near_227 : aLV mX10_near 227 mX10_takeMove 2 10 := ⟨wmX10_takeMove, lmX10_227, wiX10_takeMove, wlX10_takeMove, ⟨_, _, rfl⟩, pnX10_takeMove, ⟨by decide, by decide⟩, rfl, rfl⟩
theorem kX10_near_230 : aLV mX10_near 230 mX5_equalOf 1 5 := ⟨wmX5_equalOf, lmX10_230, wiX5_equalOf, wlX5_equalOf, ⟨_, _, rfl⟩, pnX5_equalOf, ⟨by decide, by decide⟩, rfl, rfl⟩
theorem kX10_near_249 : aLV mX10_near 249 mX2_rounded 0 2 := ⟨wmX2_rounded, lmX10_249, wiX2_rounded, wlX2_rounded, ⟨_, _, rfl⟩, pnX2_rounded, ⟨by decide, by decide⟩, rfl, rfl⟩
theorem kX10_pure_139 : aLV mX10_pure 139 mX5_hasSet 1 5 := ⟨wmX5_hasSet, lmX10_139, wiX5_hasSet, wlX5_hasSet, ⟨_, _, rfl⟩, pnX5_hasSet, ⟨by decide, by decide⟩, rfl, rfl⟩
theorem kX10_pump_268 : aLV mX10_pump 268 mX0_findPump 1 0 := ⟨wmX0_findPump, lmX10_268, wiX0_findPump, wlX0_findPump, ⟨_, _, rfl⟩, pnX0_findPump, ⟨by decide, by decide⟩, rfl, rfl⟩
theorem kX10_pump_271 : aLV mX10_pump 271 mX0_ofPump 1 0 := ⟨wmX0_ofPump, lmX10_271, wiX0_ofPump, wlX0_ofPump, ⟨_, _, rfl⟩, pnX0_ofPump, ⟨by decide, by decide⟩, rfl, rfl⟩
theorem kX10_takeMove_163 : aLV mX10_takeMove 163 mX5_isPart 2 5 := ⟨wmX5_isPart, lmX10_163, wiX5_isPart, wlX5_isPart, ⟨_, _, rfl⟩, pnX5_isPart, ⟨by decide, by decide⟩, rfl, rfl⟩
theorem kX10_takeMove_221 : aLV mX10_takeMove 221 mX5_variableOf 2 5 := ⟨wmX5_variableOf, lmX10_221, wiX5_variableOf, wlX5_variableOf, ⟨_, _, rfl⟩, pnX5_variableOf, ⟨by decide, by decide⟩, rfl, rfl⟩
theorem kX10_takeMove_245 : aLV mX10_takeMove 245 mX2_take 2 2 := ⟨wmX2_take, lmX10_245, wiX2_take, wlX2_take, ⟨_, _, rfl⟩, pnX2_take, ⟨by decide, by decide⟩, rfl, rfl⟩
theorem kX11_init_132 : aLV mX11_init 132 mX11_put 3 11 := ⟨wmX11_put, lmX11_132, wiX11_put, wlX11_put, ⟨_, _, rfl⟩, pnX11_put, ⟨by decide, by decide⟩, rfl, rfl⟩
theorem kX11_init_136 : aLV mX11_init 136 mX11_divide 0 11 := ⟨wmX11_divide, lmX11_136, wiX11_divide, wlX11_divide, ⟨_, _, rfl⟩, pnX11_divide, ⟨by decide, by decide⟩, rfl, rfl⟩
theorem kX11_put_139 : aLV mX11_put 139 mX11_powerOf 2 11 := ⟨wmX11_powerOf, lmX11_139, wiX11_powerOf, wlX11_powerOf, ⟨_, _, rfl⟩, pnX11_powerOf, ⟨by decide, by decide⟩, rfl, rfl⟩
theorem kX11_divide_157 : aLV mX11_divide 157 mX11_count 0 11 := ⟨wmX11_count, lmX11_157, wiX11_count, wlX11_count, ⟨_, _, rfl⟩, pnX11_count, ⟨by decide, by decide⟩, rfl, rfl⟩
theorem kX11_count_163 : aLV mX11_count 163 mX11_sounds0 2 11 := ⟨wmX11_sounds0, lmX11_163, wiX11_sounds0, wlX11_sounds0, ⟨_, _, rfl⟩, pnX11_sounds0, ⟨by decide, by decide⟩, rfl, rfl⟩
theorem kX11_count_167 : aLV mX11_count 167 mX11_typeOf 2 11 := ⟨wmX11_typeOf, lmX11_167, wiX11_typeOf, wlX11_typeOf, ⟨_, _, rfl⟩, pnX11_typeOf, ⟨by decide, by decide⟩, rfl, rfl⟩
theorem kX11_ratioOf_163 : aLV mX11_ratioOf 163 mX11_sounds0 2 11 := ⟨wmX11_sounds0, lmX11_163, wiX11_sounds0, wlX11_sounds0, ⟨_, _, rfl⟩, pnX11_sounds0, ⟨by decide, by decide⟩, rfl, rfl⟩
theorem kX11_ratioOf_167 : aLV mX11_ratioOf 167 mX11_typeOf 2 11 := ⟨wmX11_typeOf, lmX11_167, wiX11_typeOf, wlX11_typeOf, ⟨_, _, rfl⟩, pnX11_typeOf, ⟨by decide, by decide⟩, rfl, rfl⟩
theorem kX11_targetOf_170 : aLV mX11_targetOf 170 mX11_ratioOf 3 11 := ⟨wmX11_ratioOf, lmX11_170, wiX11_ratioOf, wlX11_ratioOf, ⟨_, _, rfl⟩, pnX11_ratioOf, ⟨by decide, by decide⟩, rfl, rfl⟩
theorem kX11_targetOf_174 : aLV mX11_targetOf 174 mX11_octavesOf 2 11 := ⟨wmX11_octavesOf, lmX11_174, wiX11_octavesOf, wlX11_octavesOf, ⟨_, _, rfl⟩, pnX11_octavesOf, ⟨by decide, by decide⟩, rfl, rfl⟩
theorem kX11_targetOf_177 : aLV mX11_targetOf 177 mX11_power 2 11 := ⟨wmX11_power, lmX11_177, wiX11_power, wlX11_power, ⟨_, _, rfl⟩, pnX11_power, ⟨by decide, by decide⟩, rfl, rfl⟩
theorem kX11_harshOf_163 : aLV mX11_harshOf 163 mX11_sounds0 2 11 := ⟨wmX11_sounds0, lmX11_163, wiX11_sounds0, wlX11_sounds0, ⟨_, _, rfl⟩, pnX11_sounds0, ⟨by decide, by decide⟩, rfl, rfl⟩
theorem kX11_harshOf_170 : aLV mX11_harshOf 170 mX11_ratioOf 3 11 := ⟨wmX11_ratioOf, lmX11_170, wiX11_ratioOf, wlX11_ratioOf, ⟨_, _, rfl⟩, pnX11_ratioOf, ⟨by decide, by decide⟩, rfl, rfl⟩
theorem kX11_harshOf_177 : aLV mX11_harshOf 177 mX11_power 2 11 := ⟨wmX11_power, lmX11_177, wiX11_power, wlX11_power, ⟨_, _, rfl⟩, pnX11_power, ⟨by decide, by decide⟩, rfl, rfl⟩
theorem kX11_isNote_180 : aLV mX11_isNote 180 mX11_isIn 3 11 := ⟨wmX11_isIn, lmX11_180, wiX11_isIn, wlX11_isIn, ⟨_, _, rfl⟩, pnX11_isIn, ⟨by decide, by decide⟩, rfl, rfl⟩
theorem kX11_isSet_180 : aLV mX11_isSet 180 mX11_isIn 3 11 := ⟨wmX11_isIn, lmX11_180, wiX11_isIn, wlX11_isIn, ⟨_, _, rfl⟩, pnX11_isIn, ⟨by decide, by decide⟩, rfl, rfl⟩
theorem kX11_isSounding_184 : aLV mX11_isSounding 184 mX11_isSet 1 11 := ⟨wmX11_isSet, lmX11_184, wiX11_isSet, wlX11_isSet, ⟨_, _, rfl⟩, pnX11_isSet, ⟨by decide, by decide⟩, rfl, rfl⟩
theorem kX11_isSounding_188 : aLV mX11_isSounding 188 mX11_isNote 1 11 := ⟨wmX11_isNote, lmX11_188, wiX11_isNote, wlX11_isNote, ⟨_, _, rfl⟩, pnX11_isNote, ⟨by decide, by decide⟩, rfl, rfl⟩
theorem kX11_isSounding_163 : aLV mX11_isSounding 163 mX11_sounds0 2 11 := ⟨wmX11_sounds0, lmX11_163, wiX11_sounds0, wlX11_sounds0, ⟨_, _, rfl⟩, pnX11_sounds0, ⟨by decide, by decide⟩, rfl, rfl⟩
theorem kX11_note_180 : aLV mX11_note 180 mX11_isIn 3 11 := ⟨wmX11_isIn, lmX11_180, wiX11_isIn, wlX11_isIn, ⟨_, _, rfl⟩, pnX11_isIn, ⟨by decide, by decide⟩, rfl, rfl⟩
theorem kX11_note_136 : aLV mX11_note 136 mX11_divide 0 11 := ⟨wmX11_divide, lmX11_136, wiX11_divide, wlX11_divide, ⟨_, _, rfl⟩, pnX11_divide, ⟨by decide, by decide⟩, rfl, rfl⟩
theorem kX11_clear_136 : aLV mX11_clear 136 mX11_divide 0 11 := ⟨wmX11_divide, lmX11_136, wiX11_divide, wlX11_divide, ⟨_, _, rfl⟩, pnX11_divide, ⟨by decide, by decide⟩, rfl, rfl⟩
theorem kX11_bind_188 : aLV mX11_bind 188 mX11_isNote 1 11 := ⟨wmX11_isNote, lmX11_188, wiX11_isNote, wlX11_isNote, ⟨_, _, rfl⟩, pnX11_isNote, ⟨by decide, by decide⟩, rfl, rfl⟩
theorem kX11_bind_136 : aLV mX11_bind 136 mX11_divide 0 11 := ⟨wmX11_divide, lmX11_136, wiX11_divide, wlX11_divide, ⟨_, _, rfl⟩, pnX11_divide, ⟨by decide, by decide⟩, rfl, rfl⟩
theorem kX11_ratio_180 : aLV mX11_ratio 180 mX11_isIn 3 11 := ⟨wmX11_isIn, lmX11_180, wiX11_isIn, wlX11_isIn, ⟨_, _, rfl⟩, pnX11_isIn, ⟨by decide, by decide⟩, rfl, rfl⟩
theorem kX11_ratio_132 : aLV mX11_ratio 132 mX11_put 3 11 := ⟨wmX11_put, lmX11_132, wiX11_put, wlX11_put, ⟨_, _, rfl⟩, pnX11_put, ⟨by decide, by decide⟩, rfl, rfl⟩
theorem kX11_ratio_136 : aLV mX11_ratio 136 mX11_divide 0 11 := ⟨wmX11_divide, lmX11_136, wiX11_divide, wlX11_divide, ⟨_, _, rfl⟩, pnX11_divide, ⟨by decide, by decide⟩, rfl, rfl⟩
theorem kX11_empty_180 : aLV mX11_empty 180 mX11_isIn 3 11 := ⟨wmX11_isIn, lmX11_180, wiX11_isIn, wlX11_isIn, ⟨_, _, rfl⟩, pnX11_isIn, ⟨by decide, by decide⟩, rfl, rfl⟩
theorem kX11_empty_136 : aLV mX11_empty 136 mX11_divide 0 11 := ⟨wmX11_divide, lmX11_136, wiX11_divide, wlX11_divide, ⟨_, _, rfl⟩, pnX11_divide, ⟨by decide, by decide⟩, rfl, rfl⟩
theorem kX11_weight_180 : aLV mX11_weight 180 mX11_isIn 3 11 := ⟨wmX11_isIn, lmX11_180, wiX11_isIn, wlX11_isIn, ⟨_, _, rfl⟩, pnX11_isIn, ⟨by decide, by decide⟩, rfl, rfl⟩
theorem kX11_weight_136 : aLV mX11_weight 136 mX11_divide 0 11 := ⟨wmX11_divide, lmX11_136, wiX11_divide, wlX11_divide, ⟨_, _, rfl⟩, pnX11_divide, ⟨by decide, by decide⟩, rfl, rfl⟩
theorem kX11_set_184 : aLV mX11_set 184 mX11_isSet 1 11 := ⟨wmX11_isSet, lmX11_184, wiX11_isSet, wlX11_isSet, ⟨_, _, rfl⟩, pnX11_isSet, ⟨by decide, by decide⟩, rfl, rfl⟩
theorem kX11_set_180 : aLV mX11_set 180 mX11_isIn 3 11 := ⟨wmX11_isIn, lmX11_180, wiX11_isIn, wlX11_isIn, ⟨_, _, rfl⟩, pnX11_isIn, ⟨by decide, by decide⟩, rfl, rfl⟩
theorem kX11_sounds_184 : aLV mX11_sounds 184 mX11_isSet 1 11 := ⟨wmX11_isSet, lmX11_184, wiX11_isSet, wlX11_isSet, ⟨_, _, rfl⟩, pnX11_isSet, ⟨by decide, by decide⟩, rfl, rfl⟩
theorem kX11_sounds_188 : aLV mX11_sounds 188 mX11_isNote 1 11 := ⟨wmX11_isNote, lmX11_188, wiX11_isNote, wlX11_isNote, ⟨_, _, rfl⟩, pnX11_isNote, ⟨by decide, by decide⟩, rfl, rfl⟩
theorem kX11_sounds_163 : aLV mX11_sounds 163 mX11_sounds0 2 11 := ⟨wmX11_sounds0, lmX11_163, wiX11_sounds0, wlX11_sounds0, ⟨_, _, rfl⟩, pnX11_sounds0, ⟨by decide, by decide⟩, rfl, rfl⟩
theorem kX11_reading_192 : aLV mX11_reading 192 mX11_isSounding 2 11 := ⟨wmX11_isSounding, lmX11_192, wiX11_isSounding, wlX11_isSounding, ⟨_, _, rfl⟩, pnX11_isSounding, ⟨by decide, by decide⟩, rfl, rfl⟩
theorem kX11_reading_180 : aLV mX11_reading 180 mX11_isIn 3 11 := ⟨wmX11_isIn, lmX11_180, wiX11_isIn, wlX11_isIn, ⟨_, _, rfl⟩, pnX11_isIn, ⟨by decide, by decide⟩, rfl, rfl⟩
theorem kX11_reading_170 : aLV mX11_reading 170 mX11_ratioOf 3 11 := ⟨wmX11_ratioOf, lmX11_170, wiX11_ratioOf, wlX11_ratioOf, ⟨_, _, rfl⟩, pnX11_ratioOf, ⟨by decide, by decide⟩, rfl, rfl⟩
theorem kX11_reading_195 : aLV mX11_reading 195 mX11_targetOf 3 11 := ⟨wmX11_targetOf, lmX11_195, wiX11_targetOf, wlX11_targetOf, ⟨_, _, rfl⟩, pnX11_targetOf, ⟨by decide, by decide⟩, rfl, rfl⟩
theorem kX11_harsh_184 : aLV mX11_harsh 184 mX11_isSet 1 11 := ⟨wmX11_isSet, lmX11_184, wiX11_isSet, wlX11_isSet, ⟨_, _, rfl⟩, pnX11_isSet, ⟨by decide, by decide⟩, rfl, rfl⟩
theorem kX11_harsh_180 : aLV mX11_harsh 180 mX11_isIn 3 11 := ⟨wmX11_isIn, lmX11_180, wiX11_isIn, wlX11_isIn, ⟨_, _, rfl⟩, pnX11_isIn, ⟨by decide, by decide⟩, rfl, rfl⟩
theorem kX11_harsh_198 : aLV mX11_harsh 198 mX11_harshOf 2 11 := ⟨wmX11_harshOf, lmX11_198, wiX11_harshOf, wlX11_harshOf, ⟨_, _, rfl⟩, pnX11_harshOf, ⟨by decide, by decide⟩, rfl, rfl⟩
theorem kX11_strain_163 : aLV mX11_strain 163 mX11_sounds0 2 11 := ⟨wmX11_sounds0, lmX11_163, wiX11_sounds0, wlX11_sounds0, ⟨_, _, rfl⟩, pnX11_sounds0, ⟨by decide, by decide⟩, rfl, rfl⟩
theorem kX11_choose_163 : aLV mX11_choose 163 mX11_sounds0 2 11 := ⟨wmX11_sounds0, lmX11_163, wiX11_sounds0, wlX11_sounds0, ⟨_, _, rfl⟩, pnX11_sounds0, ⟨by decide, by decide⟩, rfl, rfl⟩
theorem kX11_choose_195 : aLV mX11_choose 195 mX11_targetOf 3 11 := ⟨wmX11_targetOf, lmX11_195, wiX11_targetOf, wlX11_targetOf, ⟨_, _, rfl⟩, pnX11_targetOf, ⟨by decide, by decide⟩, rfl, rfl⟩
theorem kX11_choose_205 : aLV mX11_choose 205 mX11_strain 3 11 := ⟨wmX11_strain, lmX11_205, wiX11_strain, wlX11_strain, ⟨_, _, rfl⟩, pnX11_strain, ⟨by decide, by decide⟩, rfl, rfl⟩
theorem kX11_choose_198 : aLV mX11_choose 198 mX11_harshOf 2 11 := ⟨wmX11_harshOf, lmX11_198, wiX11_harshOf, wlX11_harshOf, ⟨_, _, rfl⟩, pnX11_harshOf, ⟨by decide, by decide⟩, rfl, rfl⟩
theorem kX11_chosen_184 : aLV mX11_chosen 184 mX11_isSet 1 11 := ⟨wmX11_isSet, lmX11_184, wiX11_isSet, wlX11_isSet, ⟨_, _, rfl⟩, pnX11_isSet, ⟨by decide, by decide⟩, rfl, rfl⟩
theorem kX11_build_163 : aLV mX11_build 163 mX11_sounds0 2 11 := ⟨wmX11_sounds0, lmX11_163, wiX11_sounds0, wlX11_sounds0, ⟨_, _, rfl⟩, pnX11_sounds0, ⟨by decide, by decide⟩, rfl, rfl⟩
theorem kX11_build_195 : aLV mX11_build 195 mX11_targetOf 3 11 := ⟨wmX11_targetOf, lmX11_195, wiX11_targetOf, wlX11_targetOf, ⟨_, _, rfl⟩, pnX11_targetOf, ⟨by decide, by decide⟩, rfl, rfl⟩
theorem kX11_build_213 : aLV mX11_build 213 mX11_addTerm 4 11 := ⟨wmX11_addTerm, lmX11_213, wiX11_addTerm, wlX11_addTerm, ⟨_, _, rfl⟩, pnX11_addTerm, ⟨by decide, by decide⟩, rfl, rfl⟩
theorem kX11_nextPrime_224 : aLV mX11_nextPrime 224 mX11_isPrime 1 11 := ⟨wmX11_isPrime, lmX11_224, wiX11_isPrime, wlX11_isPrime, ⟨_, _, rfl⟩, pnX11_isPrime, ⟨by decide, by decide⟩, rfl, rfl⟩
theorem kX11_byPrime_230 : aLV mX11_byPrime 230 mX11_mod 2 11 := ⟨wmX11_mod, lmX11_230, wiX11_mod, wlX11_mod, ⟨_, _, rfl⟩, pnX11_mod, ⟨by decide, by decide⟩, rfl, rfl⟩
theorem kX11_byPrime_234 : aLV mX11_byPrime 234 mX11_inverse 2 11 := ⟨wmX11_inverse, lmX11_234, wiX11_inverse, wlX11_inverse, ⟨_, _, rfl⟩, pnX11_inverse, ⟨by decide, by decide⟩, rfl, rfl⟩
theorem kX11_solve_240 : aLV mX11_solve 240 mX11_build 0 11 := ⟨wmX11_build, lmX11_240, wiX11_build, wlX11_build, ⟨_, _, rfl⟩, pnX11_build, ⟨by decide, by decide⟩, rfl, rfl⟩
theorem kX11_solve_246 : aLV mX11_solve 246 mX11_nextPrime 0 11 := ⟨wmX11_nextPrime, lmX11_246, wiX11_nextPrime, wlX11_nextPrime, ⟨_, _, rfl⟩, pnX11_nextPrime, ⟨by decide, by decide⟩, rfl, rfl⟩
theorem kX11_solve_250 : aLV mX11_solve 250 mX11_byPrime 1 11 := ⟨wmX11_byPrime, lmX11_250, wiX11_byPrime, wlX11_byPrime, ⟨_, _, rfl⟩, pnX11_byPrime, ⟨by decide, by decide⟩, rfl, rfl⟩
theorem kX11_variable_192 : aLV mX11_variable 192 mX11_isSounding 2 11 := ⟨wmX11_isSounding, lmX11_192, wiX11_isSounding, wlX11_isSounding, ⟨_, _, rfl⟩, pnX11_isSounding, ⟨by decide, by decide⟩, rfl, rfl⟩
theorem kX11_divisor_255 : aLV mX11_divisor 255 mX11_isZero 1 11 := ⟨wmX11_isZero, lmX11_255, wiX11_isZero, wlX11_isZero, ⟨_, _, rfl⟩, pnX11_isZero, ⟨by decide, by decide⟩, rfl, rfl⟩
theorem kX11_divisor_258 : aLV mX11_divisor 258 mX11_isOdd 1 11 := ⟨wmX11_isOdd, lmX11_258, wiX11_isOdd, wlX11_isOdd, ⟨_, _, rfl⟩, pnX11_isOdd, ⟨by decide, by decide⟩, rfl, rfl⟩
theorem kX11_divisor_261 : aLV mX11_divisor 261 mX11_halve 1 11 := ⟨wmX11_halve, lmX11_261, wiX11_halve, wlX11_halve, ⟨_, _, rfl⟩, pnX11_halve, ⟨by decide, by decide⟩, rfl, rfl⟩
theorem kX11_divisor_265 : aLV mX11_divisor 265 mX11_compare 2 11 := ⟨wmX11_compare, lmX11_265, wiX11_compare, wlX11_compare, ⟨_, _, rfl⟩, pnX11_compare, ⟨by decide, by decide⟩, rfl, rfl⟩
theorem kX11_divisor_268 : aLV mX11_divisor 268 mX11_less 2 11 := ⟨wmX11_less, lmX11_268, wiX11_less, wlX11_less, ⟨_, _, rfl⟩, pnX11_less, ⟨by decide, by decide⟩, rfl, rfl⟩
theorem kX11_divisor_272 : aLV mX11_divisor 272 mX11_copy 2 11 := ⟨wmX11_copy, lmX11_272, wiX11_copy, wlX11_copy, ⟨_, _, rfl⟩, pnX11_copy, ⟨by decide, by decide⟩, rfl, rfl⟩
theorem kX11_divisor_275 : aLV mX11_divisor 275 mX11_step 3 11 := ⟨wmX11_step, lmX11_275, wiX11_step, wlX11_step, ⟨_, _, rfl⟩, pnX11_step, ⟨by decide, by decide⟩, rfl, rfl⟩
theorem kX11_divide__279 : aLV mX11_divide_ 279 mX11_zero 1 11 := ⟨wmX11_zero, lmX11_279, wiX11_zero, wlX11_zero, ⟨_, _, rfl⟩, pnX11_zero, ⟨by decide, by decide⟩, rfl, rfl⟩
theorem kX11_divide__282 : aLV mX11_divide_ 282 mX11_moved 3 11 := ⟨wmX11_moved, lmX11_282, wiX11_moved, wlX11_moved, ⟨_, _, rfl⟩, pnX11_moved, ⟨by decide, by decide⟩, rfl, rfl⟩
theorem kX11_divide__265 : aLV mX11_divide_ 265 mX11_compare 2 11 := ⟨wmX11_compare, lmX11_265, wiX11_compare, wlX11_compare, ⟨_, _, rfl⟩, pnX11_compare, ⟨by decide, by decide⟩, rfl, rfl⟩
theorem kX11_divide__268 : aLV mX11_divide_ 268 mX11_less 2 11 := ⟨wmX11_less, lmX11_268, wiX11_less, wlX11_less, ⟨_, _, rfl⟩, pnX11_less, ⟨by decide, by decide⟩, rfl, rfl⟩
theorem kX11_join_230 : aLV mX11_join 230 mX11_mod 2 11 := ⟨wmX11_mod, lmX11_230, wiX11_mod, wlX11_mod, ⟨_, _, rfl⟩, pnX11_mod, ⟨by decide, by decide⟩, rfl, rfl⟩
theorem kX11_join_234 : aLV mX11_join 234 mX11_inverse 2 11 := ⟨wmX11_inverse, lmX11_234, wiX11_inverse, wlX11_inverse, ⟨_, _, rfl⟩, pnX11_inverse, ⟨by decide, by decide⟩, rfl, rfl⟩
theorem kX11_join_279 : aLV mX11_join 279 mX11_zero 1 11 := ⟨wmX11_zero, lmX11_279, wiX11_zero, wlX11_zero, ⟨_, _, rfl⟩, pnX11_zero, ⟨by decide, by decide⟩, rfl, rfl⟩
theorem kX11_join_286 : aLV mX11_join 286 mX11_add 3 11 := ⟨wmX11_add, lmX11_286, wiX11_add, wlX11_add, ⟨_, _, rfl⟩, pnX11_add, ⟨by decide, by decide⟩, rfl, rfl⟩
theorem kX11_join_275 : aLV mX11_join 275 mX11_step 3 11 := ⟨wmX11_step, lmX11_275, wiX11_step, wlX11_step, ⟨_, _, rfl⟩, pnX11_step, ⟨by decide, by decide⟩, rfl, rfl⟩
theorem kX11_join_272 : aLV mX11_join 272 mX11_copy 2 11 := ⟨wmX11_copy, lmX11_272, wiX11_copy, wlX11_copy, ⟨_, _, rfl⟩, pnX11_copy, ⟨by decide, by decide⟩, rfl, rfl⟩
theorem kX11_join_265 : aLV mX11_join 265 mX11_compare 2 11 := ⟨wmX11_compare, lmX11_265, wiX11_compare, wlX11_compare, ⟨_, _, rfl⟩, pnX11_compare, ⟨by decide, by decide⟩, rfl, rfl⟩
theorem kX11_join_268 : aLV mX11_join 268 mX11_less 2 11 := ⟨wmX11_less, lmX11_268, wiX11_less, wlX11_less, ⟨_, _, rfl⟩, pnX11_less, ⟨by decide, by decide⟩, rfl, rfl⟩
theorem kX11_tell_272 : aLV mX11_tell 272 mX11_copy 2 11 := ⟨wmX11_copy, lmX11_272, wiX11_copy, wlX11_copy, ⟨_, _, rfl⟩, pnX11_copy, ⟨by decide, by decide⟩, rfl, rfl⟩
theorem kX11_tell_299 : aLV mX11_tell 299 mX11_divisor 3 11 := ⟨wmX11_divisor, lmX11_299, wiX11_divisor, wlX11_divisor, ⟨_, _, rfl⟩, pnX11_divisor, ⟨by decide, by decide⟩, rfl, rfl⟩
theorem kX11_tell_302 : aLV mX11_tell 302 mX11_divide_ 3 11 := ⟨wmX11_divide_, lmX11_302, wiX11_divide_, wlX11_divide_, ⟨_, _, rfl⟩, pnX11_divide_, ⟨by decide, by decide⟩, rfl, rfl⟩
theorem kX11_tell_255 : aLV mX11_tell 255 mX11_isZero 1 11 := ⟨wmX11_isZero, lmX11_255, wiX11_isZero, wlX11_isZero, ⟨_, _, rfl⟩, pnX11_isZero, ⟨by decide, by decide⟩, rfl, rfl⟩
theorem kX11_tell_304 : aLV mX11_tell 304 mX11_write 1 11 := ⟨wmX11_write, lmX11_304, wiX11_write, wlX11_write, ⟨_, _, rfl⟩, pnX11_write, ⟨by decide, by decide⟩, rfl, rfl⟩
theorem kX11_tell_279 : aLV mX11_tell 279 mX11_zero 1 11 := ⟨wmX11_zero, lmX11_279, wiX11_zero, wlX11_zero, ⟨_, _, rfl⟩, pnX11_zero, ⟨by decide, by decide⟩, rfl, rfl⟩
theorem kX11_tell_265 : aLV mX11_tell 265 mX11_compare 2 11 := ⟨wmX11_compare, lmX11_265, wiX11_compare, wlX11_compare, ⟨_, _, rfl⟩, pnX11_compare, ⟨by decide, by decide⟩, rfl, rfl⟩
theorem kX11_fraction_307 : aLV mX11_fraction 307 mX11_join 2 11 := ⟨wmX11_join, lmX11_307, wiX11_join, wlX11_join, ⟨_, _, rfl⟩, pnX11_join, ⟨by decide, by decide⟩, rfl, rfl⟩
theorem kX11_place_192 : aLV mX11_place 192 mX11_isSounding 2 11 := ⟨wmX11_isSounding, lmX11_192, wiX11_isSounding, wlX11_isSounding, ⟨_, _, rfl⟩, pnX11_isSounding, ⟨by decide, by decide⟩, rfl, rfl⟩
theorem kX11_place_310 : aLV mX11_place 310 mX11_fraction 1 11 := ⟨wmX11_fraction, lmX11_310, wiX11_fraction, wlX11_fraction, ⟨_, _, rfl⟩, pnX11_fraction, ⟨by decide, by decide⟩, rfl, rfl⟩
theorem kX11_place_313 : aLV mX11_place 313 mX11_tell 1 11 := ⟨wmX11_tell, lmX11_313, wiX11_tell, wlX11_tell, ⟨_, _, rfl⟩, pnX11_tell, ⟨by decide, by decide⟩, rfl, rfl⟩
theorem kX11_move_192 : aLV mX11_move 192 mX11_isSounding 2 11 := ⟨wmX11_isSounding, lmX11_192, wiX11_isSounding, wlX11_isSounding, ⟨_, _, rfl⟩, pnX11_isSounding, ⟨by decide, by decide⟩, rfl, rfl⟩
theorem kX11_move_310 : aLV mX11_move 310 mX11_fraction 1 11 := ⟨wmX11_fraction, lmX11_310, wiX11_fraction, wlX11_fraction, ⟨_, _, rfl⟩, pnX11_fraction, ⟨by decide, by decide⟩, rfl, rfl⟩
theorem kX11_move_279 : aLV mX11_move 279 mX11_zero 1 11 := ⟨wmX11_zero, lmX11_279, wiX11_zero, wlX11_zero, ⟨_, _, rfl⟩, pnX11_zero, ⟨by decide, by decide⟩, rfl, rfl⟩
theorem kX11_move_286 : aLV mX11_move 286 mX11_add 3 11 := ⟨wmX11_add, lmX11_286, wiX11_add, wlX11_add, ⟨_, _, rfl⟩, pnX11_add, ⟨by decide, by decide⟩, rfl, rfl⟩
theorem kX11_move_313 : aLV mX11_move 313 mX11_tell 1 11 := ⟨wmX11_tell, lmX11_313, wiX11_tell, wlX11_tell, ⟨_, _, rfl⟩, pnX11_tell, ⟨by decide, by decide⟩, rfl, rfl⟩
theorem kX11_move_265 : aLV mX11_move 265 mX11_compare 2 11 := ⟨wmX11_compare, lmX11_265, wiX11_compare, wlX11_compare, ⟨_, _, rfl⟩, pnX11_compare, ⟨by decide, by decide⟩, rfl, rfl⟩
theorem kX11_move_268 : aLV mX11_move 268 mX11_less 2 11 := ⟨wmX11_less, lmX11_268, wiX11_less, wlX11_less, ⟨_, _, rfl⟩, pnX11_less, ⟨by decide, by decide⟩, rfl, rfl⟩
theorem kX11_move_272 : aLV mX11_move 272 mX11_copy 2 11 := ⟨wmX11_copy, lmX11_272, wiX11_copy, wlX11_copy, ⟨_, _, rfl⟩, pnX11_copy, ⟨by decide, by decide⟩, rfl, rfl⟩
theorem kX11_energy_310 : aLV mX11_energy 310 mX11_fraction 1 11 := ⟨wmX11_fraction, lmX11_310, wiX11_fraction, wlX11_fraction, ⟨_, _, rfl⟩, pnX11_fraction, ⟨by decide, by decide⟩, rfl, rfl⟩
theorem kX11_energy_313 : aLV mX11_energy 313 mX11_tell 1 11 := ⟨wmX11_tell, lmX11_313, wiX11_tell, wlX11_tell, ⟨_, _, rfl⟩, pnX11_tell, ⟨by decide, by decide⟩, rfl, rfl⟩
theorem kX11_near_192 : aLV mX11_near 192 mX11_isSounding 2 11 := ⟨wmX11_isSounding, lmX11_192, wiX11_isSounding, wlX11_isSounding, ⟨_, _, rfl⟩, pnX11_isSounding, ⟨by decide, by decide⟩, rfl, rfl⟩
theorem kX11_near_310 : aLV mX11_near 310 mX11_fraction 1 11 := ⟨wmX11_fraction, lmX11_310, wiX11_fraction, wlX11_fraction, ⟨_, _, rfl⟩, pnX11_fraction, ⟨by decide, by decide⟩, rfl, rfl⟩
theorem kX11_near_275 : aLV mX11_near 275 mX11_step 3 11 := ⟨wmX11_step, lmX11_275, wiX11_step, wlX11_step, ⟨_, _, rfl⟩, pnX11_step, ⟨by decide, by decide⟩, rfl, rfl⟩
theorem kX11_near_286 : aLV mX11_near 286 mX11_add 3 11 := ⟨wmX11_add, lmX11_286, wiX11_add, wlX11_add, ⟨_, _, rfl⟩, pnX11_add, ⟨by decide, by decide⟩, rfl, rfl⟩
theorem kX11_near_265 : aLV mX11_near 265 mX11_compare 2 11 := ⟨wmX11_compare, lmX11_265, wiX11_compare, wlX11_compare, ⟨_, _, rfl⟩, pnX11_compare, ⟨by decide, by decide⟩, rfl, rfl⟩
theorem kX11_near_272 : aLV mX11_near 272 mX11_copy 2 11 := ⟨wmX11_copy, lmX11_272, wiX11_copy, wlX11_copy, ⟨_, _, rfl⟩, pnX11_copy, ⟨by decide, by decide⟩, rfl, rfl⟩
theorem kX11_near_268 : aLV mX11_near 268 mX11_less 2 11 := ⟨wmX11_less, lmX11_268, wiX11_less, wlX11_less, ⟨_, _, rfl⟩, pnX11_less, ⟨by decide, by decide⟩, rfl, rfl⟩
theorem kX11_near_302 : aLV mX11_near 302 mX11_divide_ 3 11 := ⟨wmX11_divide_, lmX11_302, wiX11_divide_, wlX11_divide_, ⟨_, _, rfl⟩, pnX11_divide_, ⟨by decide, by decide⟩, rfl, rfl⟩
theorem kX11_near_255 : aLV mX11_near 255 mX11_isZero 1 11 := ⟨wmX11_isZero, lmX11_255, wiX11_isZero, wlX11_isZero, ⟨_, _, rfl⟩, pnX11_isZero, ⟨by decide, by decide⟩, rfl, rfl⟩
theorem kX11_text_180 : aLV mX11_text 180 mX11_isIn 3 11 := ⟨wmX11_isIn, lmX11_180, wiX11_isIn, wlX11_isIn, ⟨_, _, rfl⟩, pnX11_isIn, ⟨by decide, by decide⟩, rfl, rfl⟩
theorem kX11_shifts_163 : aLV mX11_shifts 163 mX11_sounds0 2 11 := ⟨wmX11_sounds0, lmX11_163, wiX11_sounds0, wlX11_sounds0, ⟨_, _, rfl⟩, pnX11_sounds0, ⟨by decide, by decide⟩, rfl, rfl⟩
theorem kX11_shifts_170 : aLV mX11_shifts 170 mX11_ratioOf 3 11 := ⟨wmX11_ratioOf, lmX11_170, wiX11_ratioOf, wlX11_ratioOf, ⟨_, _, rfl⟩, pnX11_ratioOf, ⟨by decide, by decide⟩, rfl, rfl⟩
theorem kX11_shifts_177 : aLV mX11_shifts 177 mX11_power 2 11 := ⟨wmX11_power, lmX11_177, wiX11_power, wlX11_power, ⟨_, _, rfl⟩, pnX11_power, ⟨by decide, by decide⟩, rfl, rfl⟩
theorem kX11_shifts_174 : aLV mX11_shifts 174 mX11_octavesOf 2 11 := ⟨wmX11_octavesOf, lmX11_174, wiX11_octavesOf, wlX11_octavesOf, ⟨_, _, rfl⟩, pnX11_octavesOf, ⟨by decide, by decide⟩, rfl, rfl⟩
theorem kX11_pure_184 : aLV mX11_pure 184 mX11_isSet 1 11 := ⟨wmX11_isSet, lmX11_184, wiX11_isSet, wlX11_isSet, ⟨_, _, rfl⟩, pnX11_isSet, ⟨by decide, by decide⟩, rfl, rfl⟩
theorem kX11_pure_180 : aLV mX11_pure 180 mX11_isIn 3 11 := ⟨wmX11_isIn, lmX11_180, wiX11_isIn, wlX11_isIn, ⟨_, _, rfl⟩, pnX11_isIn, ⟨by decide, by decide⟩, rfl, rfl⟩
theorem kX11_pure_319 : aLV mX11_pure 319 mX11_shifts 0 11 := ⟨wmX11_shifts, lmX11_319, wiX11_shifts, wlX11_shifts, ⟨_, _, rfl⟩, pnX11_shifts, ⟨by decide, by decide⟩, rfl, rfl⟩
theorem kX11_pump_180 : aLV mX11_pump 180 mX11_isIn 3 11 := ⟨wmX11_isIn, lmX11_180, wiX11_isIn, wlX11_isIn, ⟨_, _, rfl⟩, pnX11_isIn, ⟨by decide, by decide⟩, rfl, rfl⟩
theorem kX11_pump_319 : aLV mX11_pump 319 mX11_shifts 0 11 := ⟨wmX11_shifts, lmX11_319, wiX11_shifts, wlX11_shifts, ⟨_, _, rfl⟩, pnX11_shifts, ⟨by decide, by decide⟩, rfl, rfl⟩
theorem kL_law_13 : aLV md_law 13 mX10_note 3 10 := ⟨wmX10_note, lmL_13, wiX10_note, wlX10_note, ⟨_, _, rfl⟩, pnX10_note, ⟨by decide, by decide⟩, rfl, rfl⟩
theorem kL_law_17 : aLV md_law 17 mX11_note 3 11 := ⟨wmX11_note, lmL_17, wiX11_note, wlX11_note, ⟨_, _, rfl⟩, pnX11_note, ⟨by decide, by decide⟩, rfl, rfl⟩
theorem kL_law_18 : aLV md_law 18 mX10_clear 0 10 := ⟨wmX10_clear, lmL_18, wiX10_clear, wlX10_clear, ⟨_, _, rfl⟩, pnX10_clear, ⟨by decide, by decide⟩, rfl, rfl⟩
theorem kL_law_22 : aLV md_law 22 mX11_clear 0 11 := ⟨wmX11_clear, lmL_22, wiX11_clear, wlX11_clear, ⟨_, _, rfl⟩, pnX11_clear, ⟨by decide, by decide⟩, rfl, rfl⟩
theorem kL_law_23 : aLV md_law 23 mX10_bind 2 10 := ⟨wmX10_bind, lmL_23, wiX10_bind, wlX10_bind, ⟨_, _, rfl⟩, pnX10_bind, ⟨by decide, by decide⟩, rfl, rfl⟩
theorem kL_law_27 : aLV md_law 27 mX11_bind 2 11 := ⟨wmX11_bind, lmL_27, wiX11_bind, wlX11_bind, ⟨_, _, rfl⟩, pnX11_bind, ⟨by decide, by decide⟩, rfl, rfl⟩
theorem kL_law_28 : aLV md_law 28 mX10_ratio 3 10 := ⟨wmX10_ratio, lmL_28, wiX10_ratio, wlX10_ratio, ⟨_, _, rfl⟩, pnX10_ratio, ⟨by decide, by decide⟩, rfl, rfl⟩
theorem kL_law_31 : aLV md_law 31 mX11_ratio 3 11 := ⟨wmX11_ratio, lmL_31, wiX11_ratio, wlX11_ratio, ⟨_, _, rfl⟩, pnX11_ratio, ⟨by decide, by decide⟩, rfl, rfl⟩
theorem kL_law_32 : aLV md_law 32 mX10_empty 1 10 := ⟨wmX10_empty, lmL_32, wiX10_empty, wlX10_empty, ⟨_, _, rfl⟩, pnX10_empty, ⟨by decide, by decide⟩, rfl, rfl⟩
theorem kL_law_36 : aLV md_law 36 mX11_empty 1 11 := ⟨wmX11_empty, lmL_36, wiX11_empty, wlX11_empty, ⟨_, _, rfl⟩, pnX11_empty, ⟨by decide, by decide⟩, rfl, rfl⟩
theorem kL_law_37 : aLV md_law 37 mX10_weight 2 10 := ⟨wmX10_weight, lmL_37, wiX10_weight, wlX10_weight, ⟨_, _, rfl⟩, pnX10_weight, ⟨by decide, by decide⟩, rfl, rfl⟩
theorem kL_law_41 : aLV md_law 41 mX11_weight 2 11 := ⟨wmX11_weight, lmL_41, wiX11_weight, wlX11_weight, ⟨_, _, rfl⟩, pnX11_weight, ⟨by decide, by decide⟩, rfl, rfl⟩
theorem kL_law_42 : aLV md_law 42 mX10_sets 0 10 := ⟨wmX10_sets, lmL_42, wiX10_sets, wlX10_sets, ⟨_, _, rfl⟩, pnX10_sets, ⟨by decide, by decide⟩, rfl, rfl⟩
theorem kL_law_45 : aLV md_law 45 mX11_sets 0 11 := ⟨wmX11_sets, lmL_45, wiX11_sets, wlX11_sets, ⟨_, _, rfl⟩, pnX11_sets, ⟨by decide, by decide⟩, rfl, rfl⟩
theorem kL_law_46 : aLV md_law 46 mX10_set 2 10 := ⟨wmX10_set, lmL_46, wiX10_set, wlX10_set, ⟨_, _, rfl⟩, pnX10_set, ⟨by decide, by decide⟩, rfl, rfl⟩
theorem kL_law_49 : aLV md_law 49 mX11_set 2 11 := ⟨wmX11_set, lmL_49, wiX11_set, wlX11_set, ⟨_, _, rfl⟩, pnX11_set, ⟨by decide, by decide⟩, rfl, rfl⟩
theorem kL_law_50 : aLV md_law 50 mX10_sounds 2 10 := ⟨wmX10_sounds, lmL_50, wiX10_sounds, wlX10_sounds, ⟨_, _, rfl⟩, pnX10_sounds, ⟨by decide, by decide⟩, rfl, rfl⟩
theorem kL_law_53 : aLV md_law 53 mX11_sounds 2 11 := ⟨wmX11_sounds, lmL_53, wiX11_sounds, wlX11_sounds, ⟨_, _, rfl⟩, pnX11_sounds, ⟨by decide, by decide⟩, rfl, rfl⟩
theorem kL_law_54 : aLV md_law 54 mX10_reading 4 10 := ⟨wmX10_reading, lmL_54, wiX10_reading, wlX10_reading, ⟨_, _, rfl⟩, pnX10_reading, ⟨by decide, by decide⟩, rfl, rfl⟩
theorem kL_law_58 : aLV md_law 58 mX11_reading 4 11 := ⟨wmX11_reading, lmL_58, wiX11_reading, wlX11_reading, ⟨_, _, rfl⟩, pnX11_reading, ⟨by decide, by decide⟩, rfl, rfl⟩
theorem kL_law_59 : aLV md_law 59 mX10_harsh 2 10 := ⟨wmX10_harsh, lmL_59, wiX10_harsh, wlX10_harsh, ⟨_, _, rfl⟩, pnX10_harsh, ⟨by decide, by decide⟩, rfl, rfl⟩
theorem kL_law_62 : aLV md_law 62 mX11_harsh 2 11 := ⟨wmX11_harsh, lmL_62, wiX11_harsh, wlX11_harsh, ⟨_, _, rfl⟩, pnX11_harsh, ⟨by decide, by decide⟩, rfl, rfl⟩
theorem kL_law_63 : aLV md_law 63 mX10_choose 0 10 := ⟨wmX10_choose, lmL_63, wiX10_choose, wlX10_choose, ⟨_, _, rfl⟩, pnX10_choose, ⟨by decide, by decide⟩, rfl, rfl⟩
theorem kL_law_67 : aLV md_law 67 mX11_choose 0 11 := ⟨wmX11_choose, lmL_67, wiX11_choose, wlX11_choose, ⟨_, _, rfl⟩, pnX11_choose, ⟨by decide, by decide⟩, rfl, rfl⟩
theorem kL_law_68 : aLV md_law 68 mX10_chosen 1 10 := ⟨wmX10_chosen, lmL_68, wiX10_chosen, wlX10_chosen, ⟨_, _, rfl⟩, pnX10_chosen, ⟨by decide, by decide⟩, rfl, rfl⟩
theorem kL_law_71 : aLV md_law 71 mX11_chosen 1 11 := ⟨wmX11_chosen, lmL_71, wiX11_chosen, wlX11_chosen, ⟨_, _, rfl⟩, pnX11_chosen, ⟨by decide, by decide⟩, rfl, rfl⟩
theorem kL_law_72 : aLV md_law 72 mX10_solve 0 10 := ⟨wmX10_solve, lmL_72, wiX10_solve, wlX10_solve, ⟨_, _, rfl⟩, pnX10_solve, ⟨by decide, by decide⟩, rfl, rfl⟩
theorem kL_law_75 : aLV md_law 75 mX11_solve 0 11 := ⟨wmX11_solve, lmL_75, wiX11_solve, wlX11_solve, ⟨_, _, rfl⟩, pnX11_solve, ⟨by decide, by decide⟩, rfl, rfl⟩
theorem kL_law_76 : aLV md_law 76 mX10_variable 2 10 := ⟨wmX10_variable, lmL_76, wiX10_variable, wlX10_variable, ⟨_, _, rfl⟩, pnX10_variable, ⟨by decide, by decide⟩, rfl, rfl⟩
theorem kL_law_79 : aLV md_law 79 mX11_variable 2 11 := ⟨wmX11_variable, lmL_79, wiX11_variable, wlX11_variable, ⟨_, _, rfl⟩, pnX11_variable, ⟨by decide, by decide⟩, rfl, rfl⟩
theorem kL_law_80 : aLV md_law 80 mX10_loose 0 10 := ⟨wmX10_loose, lmL_80, wiX10_loose, wlX10_loose, ⟨_, _, rfl⟩, pnX10_loose, ⟨by decide, by decide⟩, rfl, rfl⟩
theorem kL_law_83 : aLV md_law 83 mX11_loose 0 11 := ⟨wmX11_loose, lmL_83, wiX11_loose, wlX11_loose, ⟨_, _, rfl⟩, pnX11_loose, ⟨by decide, by decide⟩, rfl, rfl⟩
theorem kL_law_84 : aLV md_law 84 mX10_place 2 10 := ⟨wmX10_place, lmL_84, wiX10_place, wlX10_place, ⟨_, _, rfl⟩, pnX10_place, ⟨by decide, by decide⟩, rfl, rfl⟩
theorem kL_law_87 : aLV md_law 87 mX11_place 2 11 := ⟨wmX11_place, lmL_87, wiX11_place, wlX11_place, ⟨_, _, rfl⟩, pnX11_place, ⟨by decide, by decide⟩, rfl, rfl⟩
theorem kL_law_88 : aLV md_law 88 mX10_move 2 10 := ⟨wmX10_move, lmL_88, wiX10_move, wlX10_move, ⟨_, _, rfl⟩, pnX10_move, ⟨by decide, by decide⟩, rfl, rfl⟩
theorem kL_law_91 : aLV md_law 91 mX11_move 2 11 := ⟨wmX11_move, lmL_91, wiX11_move, wlX11_move, ⟨_, _, rfl⟩, pnX11_move, ⟨by decide, by decide⟩, rfl, rfl⟩
theorem kL_law_92 : aLV md_law 92 mX10_energy 0 10 := ⟨wmX10_energy, lmL_92, wiX10_energy, wlX10_energy, ⟨_, _, rfl⟩, pnX10_energy, ⟨by decide, by decide⟩, rfl, rfl⟩
theorem kL_law_95 : aLV md_law 95 mX11_energy 0 11 := ⟨wmX11_energy, lmL_95, wiX11_energy, wlX11_energy, ⟨_, _, rfl⟩, pnX11_energy, ⟨by decide, by decide⟩, rfl, rfl⟩
theorem kL_law_96 : aLV md_law 96 mX10_near 2 10 := ⟨wmX10_near, lmL_96, wiX10_near, wlX10_near, ⟨_, _, rfl⟩, pnX10_near, ⟨by decide, by decide⟩, rfl, rfl⟩
theorem kL_law_99 : aLV md_law 99 mX11_near 2 11 := ⟨wmX11_near, lmL_99, wiX11_near, wlX11_near, ⟨_, _, rfl⟩, pnX11_near, ⟨by decide, by decide⟩, rfl, rfl⟩
theorem kL_law_100 : aLV md_law 100 mX10_text 1 10 := ⟨wmX10_text, lmL_100, wiX10_text, wlX10_text, ⟨_, _, rfl⟩, pnX10_text, ⟨by decide, by decide⟩, rfl, rfl⟩
theorem kL_law_103 : aLV md_law 103 mX11_text 1 11 := ⟨wmX11_text, lmL_103, wiX11_text, wlX11_text, ⟨_, _, rfl⟩, pnX11_text, ⟨by decide, by decide⟩, rfl, rfl⟩
theorem kL_law_104 : aLV md_law 104 mX10_pure 2 10 := ⟨wmX10_pure, lmL_104, wiX10_pure, wlX10_pure, ⟨_, _, rfl⟩, pnX10_pure, ⟨by decide, by decide⟩, rfl, rfl⟩
theorem kL_law_107 : aLV md_law 107 mX11_pure 2 11 := ⟨wmX11_pure, lmL_107, wiX11_pure, wlX11_pure, ⟨_, _, rfl⟩, pnX11_pure, ⟨by decide, by decide⟩, rfl, rfl⟩
theorem kL_law_108 : aLV md_law 108 mX10_pump 2 10 := ⟨wmX10_pump, lmL_108, wiX10_pump, wlX10_pump, ⟨_, _, rfl⟩, pnX10_pump, ⟨by decide, by decide⟩, rfl, rfl⟩
theorem kL_law_111 : aLV md_law 111 mX11_pump 2 11 := ⟨wmX11_pump, lmL_111, wiX11_pump, wlX11_pump, ⟨_, _, rfl⟩, pnX11_pump, ⟨by decide, by decide⟩, rfl, rfl⟩
end
