/-! THE WORLD BEHIND THE TWO CONSTRUCTORS: shapes, references; calls by caller and entry -/
def sh0 : List (Nat × Nat) := [(20, 0), (0, 5), (13, 0), (0, 37), (0, 37), (0, 37), (0, 222), (0, 12), (15, 0), (0, 16), (0, 16), (0, 16), (1, 16), (0, 31), (0, 31), (0, 31), (0, 31), (0, 186), (0, 496), (0, 6), (12, 0), (19, 0), (0, 12), (19, 0), (0, 12), (19, 0), (0, 12), (19, 0), (0, 12), (18, 0), (2, 256), (14, 0), (0, 16), (11, 0), (0, 31), (0, 31), (3, 64), (3, 64), (0, 1984), (0, 384), (0, 384), (10, 0), (0, 186), (0, 31), (0, 31), (17, 0), (5, 20), (3, 20), (3, 20), (3, 20), (3, 20), (3, 20), (3, 20), (3, 20), (3, 20), (3, 20), (3, 20), (3, 20), (3, 20), (3, 20), (3, 20), (3, 20), (3, 20), (3, 20), (3, 20), (3, 20), (3, 20), (3, 20), (0, 20), (16, 0), (4, 22), (5, 20), (3, 21), (3, 21), (3, 21), (3, 21), (3, 21), (3, 21), (3, 21), (3, 21), (3, 21), (3, 21), (3, 21), (3, 21), (3, 21), (3, 21), (3, 21), (3, 21), (3, 21), (3, 21), (3, 21), (3, 21), (5, 11), (3, 22), (3, 22), (3, 22), (3, 22), (3, 22), (3, 22), (3, 22), (3, 22), (3, 22), (3, 22), (3, 22), (3, 11), (3, 11), (3, 11), (19, 0), (0, 12), (19, 0), (0, 12), (19, 0), (0, 12), (19, 0), (0, 12), (19, 0), (0, 12), (19, 0), (0, 12), (19, 0), (0, 12), (19, 0), (0, 12), (19, 0), (0, 12), (19, 0), (0, 12), (19, 0), (0, 12), (19, 0), (0, 12), (19, 0), (0, 12), (19, 0), (0, 12), (19, 0), (0, 12), (19, 0), (0, 12), (19, 0), (0, 12), (19, 0), (0, 12), (19, 0), (0, 12), (19, 0), (0, 12), (19, 0), (0, 12), (19, 0), (0, 12), (21, 0), (0, 16), (0, 16), (0, 16), (1, 16), (0, 12), (0, 36), (0, 36), (0, 216), (0, 6), (0, 6), (0, 5), (0, 32), (0, 32), (0, 32), (0, 32), (0, 32), (0, 32), (0, 512), (0, 32), (0, 32), (3, 2048), (0, 32768), (3, 400), (3, 20), (0, 20), (0, 20), (1, 20), (3, 40), (3, 14), (3, 308), (3, 420), (3, 216), (3, 14), (2, 400), (0, 192), (0, 32), (0, 32), (0, 24)]
def R0l : List (List (Option Nat)) := [[], [], [], [], [], [], [], [], [some 9, some 10, some 16, some 39, some 41, some 49, some 53, some 77, some 28, some 37], [], [some 11, some 12, some 13, some 14, some 15], [], [], [], [], [], [none, some 17, some 18, some 19, some 20, none, some 21, some 22, some 23, some 24, some 25, none, some 26, none, some 27], [], [], [], [], [], [], [], [], [], [], [], [some 29, some 31, some 33, some 35], [some 30], [], [some 32], [], [some 34], [], [some 36], [], [some 38], [], [some 16, some 10, some 40], [], [some 16, some 39, some 9, some 42, some 43, some 44, some 45, some 46, some 47, some 48], [], [], [], [], [], [], [], [some 16, some 10, some 39, some 41, some 50, some 51, some 52], [], [], [], [some 16, some 39, some 41, some 9, none, none, none, some 54, some 75, some 76], [some 55, some 56, some 57, some 58, some 59, some 60, some 61, some 62, some 63, some 64, some 65, some 66, some 67, some 68, some 69, some 70, some 71, some 72, some 73, some 74], [], [], [], [], [], [], [], [], [], [], [], [], [], [], [], [], [], [], [], [], [], [], [some 53, some 78, some 79, some 100, some 112, some 113, some 114], [some 115, some 117, some 119, some 121, some 123, some 125, some 127, some 129, some 131, some 133, some 135, some 137, some 139, some 141, some 143, some 145, some 147, some 149, some 151, some 153, some 155, some 157], [some 80, some 81, some 82, some 83, some 84, some 85, some 86, some 87, some 88, some 89, some 90, some 91, some 92, some 93, some 94, some 95, some 96, some 97, some 98, some 99], [], [], [], [], [], [], [], [], [], [], [], [], [], [], [], [], [], [], [], [], [some 101, some 102, some 103, some 104, some 105, some 106, some 107, some 108, some 109, some 110, some 111], [], [], [], [], [], [], [], [], [], [], [], [], [], [], [some 116], [], [some 118], [], [some 120], [], [some 122], [], [some 124], [], [some 126], [], [some 128], [], [some 130], [], [some 132], [], [some 134], [], [some 136], [], [some 138], [], [some 140], [], [some 142], [], [some 144], [], [some 146], [], [some 148], [], [some 150], [], [some 152], [], [some 154], [], [some 156], [], [some 158], [], [none, some 160, some 161, some 162, some 163, some 164, some 165, some 166, some 167, some 168, some 169, some 170, none, none, none, some 171, some 172, some 173, some 174, some 175, some 176, none, some 177, some 178, some 179, some 180, some 181, some 182, some 183, some 184, some 185, some 186, none, none, none, some 187, none, some 188, some 189, some 190, some 191, some 192, none, some 193, some 194, some 195, some 196]]
def R0 (k i : Nat) : Option Nat := (R0l.getD k []).getD i none
def aRf (R : Nat → Nat → Option Nat) : Prop := ∀ k i r, R0 k i = some r → R k i = some r
theorem s8 {I : Nat → Nat → Int32} {L : Nat → Nat → Int64} {R : Nat → Nat → Option Nat} : aSh (sh0, I, L, R) 8 = some (10 + 10, 0) := rfl
theorem s9 {I : Nat → Nat → Int32} {L : Nat → Nat → Int64} {R : Nat → Nat → Option Nat} : aSh (sh0, I, L, R) 9 = some (0, 5) := rfl
theorem s10 {I : Nat → Nat → Int32} {L : Nat → Nat → Int64} {R : Nat → Nat → Option Nat} : aSh (sh0, I, L, R) 10 = some (10 + 3, 0) := rfl
theorem s11 {I : Nat → Nat → Int32} {L : Nat → Nat → Int64} {R : Nat → Nat → Option Nat} : aSh (sh0, I, L, R) 11 = some (0, 37) := rfl
theorem s12 {I : Nat → Nat → Int32} {L : Nat → Nat → Int64} {R : Nat → Nat → Option Nat} : aSh (sh0, I, L, R) 12 = some (0, 37) := rfl
theorem s13 {I : Nat → Nat → Int32} {L : Nat → Nat → Int64} {R : Nat → Nat → Option Nat} : aSh (sh0, I, L, R) 13 = some (0, 37) := rfl
theorem s14 {I : Nat → Nat → Int32} {L : Nat → Nat → Int64} {R : Nat → Nat → Option Nat} : aSh (sh0, I, L, R) 14 = some (0, 222) := rfl
theorem s15 {I : Nat → Nat → Int32} {L : Nat → Nat → Int64} {R : Nat → Nat → Option Nat} : aSh (sh0, I, L, R) 15 = some (0, 12) := rfl
theorem s16 {I : Nat → Nat → Int32} {L : Nat → Nat → Int64} {R : Nat → Nat → Option Nat} : aSh (sh0, I, L, R) 16 = some (10 + 5, 0) := rfl
theorem s17 {I : Nat → Nat → Int32} {L : Nat → Nat → Int64} {R : Nat → Nat → Option Nat} : aSh (sh0, I, L, R) 17 = some (0, 16) := rfl
theorem s18 {I : Nat → Nat → Int32} {L : Nat → Nat → Int64} {R : Nat → Nat → Option Nat} : aSh (sh0, I, L, R) 18 = some (0, 16) := rfl
theorem s19 {I : Nat → Nat → Int32} {L : Nat → Nat → Int64} {R : Nat → Nat → Option Nat} : aSh (sh0, I, L, R) 19 = some (0, 16) := rfl
theorem s20 {I : Nat → Nat → Int32} {L : Nat → Nat → Int64} {R : Nat → Nat → Option Nat} : aSh (sh0, I, L, R) 20 = some (1, 16) := rfl
theorem s21 {I : Nat → Nat → Int32} {L : Nat → Nat → Int64} {R : Nat → Nat → Option Nat} : aSh (sh0, I, L, R) 21 = some (0, 31) := rfl
theorem s22 {I : Nat → Nat → Int32} {L : Nat → Nat → Int64} {R : Nat → Nat → Option Nat} : aSh (sh0, I, L, R) 22 = some (0, 31) := rfl
theorem s23 {I : Nat → Nat → Int32} {L : Nat → Nat → Int64} {R : Nat → Nat → Option Nat} : aSh (sh0, I, L, R) 23 = some (0, 31) := rfl
theorem s24 {I : Nat → Nat → Int32} {L : Nat → Nat → Int64} {R : Nat → Nat → Option Nat} : aSh (sh0, I, L, R) 24 = some (0, 31) := rfl
theorem s25 {I : Nat → Nat → Int32} {L : Nat → Nat → Int64} {R : Nat → Nat → Option Nat} : aSh (sh0, I, L, R) 25 = some (0, 186) := rfl
theorem s26 {I : Nat → Nat → Int32} {L : Nat → Nat → Int64} {R : Nat → Nat → Option Nat} : aSh (sh0, I, L, R) 26 = some (0, 496) := rfl
theorem s27 {I : Nat → Nat → Int32} {L : Nat → Nat → Int64} {R : Nat → Nat → Option Nat} : aSh (sh0, I, L, R) 27 = some (0, 6) := rfl
theorem s28 {I : Nat → Nat → Int32} {L : Nat → Nat → Int64} {R : Nat → Nat → Option Nat} : aSh (sh0, I, L, R) 28 = some (10 + 2, 0) := rfl
theorem s29 {I : Nat → Nat → Int32} {L : Nat → Nat → Int64} {R : Nat → Nat → Option Nat} : aSh (sh0, I, L, R) 29 = some (10 + 9, 0) := rfl
theorem s30 {I : Nat → Nat → Int32} {L : Nat → Nat → Int64} {R : Nat → Nat → Option Nat} : aSh (sh0, I, L, R) 30 = some (0, 12) := rfl
theorem s31 {I : Nat → Nat → Int32} {L : Nat → Nat → Int64} {R : Nat → Nat → Option Nat} : aSh (sh0, I, L, R) 31 = some (10 + 9, 0) := rfl
theorem s32 {I : Nat → Nat → Int32} {L : Nat → Nat → Int64} {R : Nat → Nat → Option Nat} : aSh (sh0, I, L, R) 32 = some (0, 12) := rfl
theorem s33 {I : Nat → Nat → Int32} {L : Nat → Nat → Int64} {R : Nat → Nat → Option Nat} : aSh (sh0, I, L, R) 33 = some (10 + 9, 0) := rfl
theorem s34 {I : Nat → Nat → Int32} {L : Nat → Nat → Int64} {R : Nat → Nat → Option Nat} : aSh (sh0, I, L, R) 34 = some (0, 12) := rfl
theorem s35 {I : Nat → Nat → Int32} {L : Nat → Nat → Int64} {R : Nat → Nat → Option Nat} : aSh (sh0, I, L, R) 35 = some (10 + 9, 0) := rfl
theorem s36 {I : Nat → Nat → Int32} {L : Nat → Nat → Int64} {R : Nat → Nat → Option Nat} : aSh (sh0, I, L, R) 36 = some (0, 12) := rfl
theorem s37 {I : Nat → Nat → Int32} {L : Nat → Nat → Int64} {R : Nat → Nat → Option Nat} : aSh (sh0, I, L, R) 37 = some (10 + 8, 0) := rfl
theorem s38 {I : Nat → Nat → Int32} {L : Nat → Nat → Int64} {R : Nat → Nat → Option Nat} : aSh (sh0, I, L, R) 38 = some (2, 256) := rfl
theorem s39 {I : Nat → Nat → Int32} {L : Nat → Nat → Int64} {R : Nat → Nat → Option Nat} : aSh (sh0, I, L, R) 39 = some (10 + 4, 0) := rfl
theorem s40 {I : Nat → Nat → Int32} {L : Nat → Nat → Int64} {R : Nat → Nat → Option Nat} : aSh (sh0, I, L, R) 40 = some (0, 16) := rfl
theorem s41 {I : Nat → Nat → Int32} {L : Nat → Nat → Int64} {R : Nat → Nat → Option Nat} : aSh (sh0, I, L, R) 41 = some (10 + 1, 0) := rfl
theorem s42 {I : Nat → Nat → Int32} {L : Nat → Nat → Int64} {R : Nat → Nat → Option Nat} : aSh (sh0, I, L, R) 42 = some (0, 31) := rfl
theorem s43 {I : Nat → Nat → Int32} {L : Nat → Nat → Int64} {R : Nat → Nat → Option Nat} : aSh (sh0, I, L, R) 43 = some (0, 31) := rfl
theorem s44 {I : Nat → Nat → Int32} {L : Nat → Nat → Int64} {R : Nat → Nat → Option Nat} : aSh (sh0, I, L, R) 44 = some (3, 64) := rfl
theorem s45 {I : Nat → Nat → Int32} {L : Nat → Nat → Int64} {R : Nat → Nat → Option Nat} : aSh (sh0, I, L, R) 45 = some (3, 64) := rfl
theorem s46 {I : Nat → Nat → Int32} {L : Nat → Nat → Int64} {R : Nat → Nat → Option Nat} : aSh (sh0, I, L, R) 46 = some (0, 1984) := rfl
theorem s47 {I : Nat → Nat → Int32} {L : Nat → Nat → Int64} {R : Nat → Nat → Option Nat} : aSh (sh0, I, L, R) 47 = some (0, 384) := rfl
theorem s48 {I : Nat → Nat → Int32} {L : Nat → Nat → Int64} {R : Nat → Nat → Option Nat} : aSh (sh0, I, L, R) 48 = some (0, 384) := rfl
theorem s49 {I : Nat → Nat → Int32} {L : Nat → Nat → Int64} {R : Nat → Nat → Option Nat} : aSh (sh0, I, L, R) 49 = some (10 + 0, 0) := rfl
theorem s50 {I : Nat → Nat → Int32} {L : Nat → Nat → Int64} {R : Nat → Nat → Option Nat} : aSh (sh0, I, L, R) 50 = some (0, 186) := rfl
theorem s51 {I : Nat → Nat → Int32} {L : Nat → Nat → Int64} {R : Nat → Nat → Option Nat} : aSh (sh0, I, L, R) 51 = some (0, 31) := rfl
theorem s52 {I : Nat → Nat → Int32} {L : Nat → Nat → Int64} {R : Nat → Nat → Option Nat} : aSh (sh0, I, L, R) 52 = some (0, 31) := rfl
theorem s53 {I : Nat → Nat → Int32} {L : Nat → Nat → Int64} {R : Nat → Nat → Option Nat} : aSh (sh0, I, L, R) 53 = some (10 + 7, 0) := rfl
theorem s54 {I : Nat → Nat → Int32} {L : Nat → Nat → Int64} {R : Nat → Nat → Option Nat} : aSh (sh0, I, L, R) 54 = some (5, 20) := rfl
theorem s55 {I : Nat → Nat → Int32} {L : Nat → Nat → Int64} {R : Nat → Nat → Option Nat} : aSh (sh0, I, L, R) 55 = some (3, 20) := rfl
theorem s56 {I : Nat → Nat → Int32} {L : Nat → Nat → Int64} {R : Nat → Nat → Option Nat} : aSh (sh0, I, L, R) 56 = some (3, 20) := rfl
theorem s57 {I : Nat → Nat → Int32} {L : Nat → Nat → Int64} {R : Nat → Nat → Option Nat} : aSh (sh0, I, L, R) 57 = some (3, 20) := rfl
theorem s58 {I : Nat → Nat → Int32} {L : Nat → Nat → Int64} {R : Nat → Nat → Option Nat} : aSh (sh0, I, L, R) 58 = some (3, 20) := rfl
theorem s59 {I : Nat → Nat → Int32} {L : Nat → Nat → Int64} {R : Nat → Nat → Option Nat} : aSh (sh0, I, L, R) 59 = some (3, 20) := rfl
theorem s60 {I : Nat → Nat → Int32} {L : Nat → Nat → Int64} {R : Nat → Nat → Option Nat} : aSh (sh0, I, L, R) 60 = some (3, 20) := rfl
theorem s61 {I : Nat → Nat → Int32} {L : Nat → Nat → Int64} {R : Nat → Nat → Option Nat} : aSh (sh0, I, L, R) 61 = some (3, 20) := rfl
theorem s62 {I : Nat → Nat → Int32} {L : Nat → Nat → Int64} {R : Nat → Nat → Option Nat} : aSh (sh0, I, L, R) 62 = some (3, 20) := rfl
theorem s63 {I : Nat → Nat → Int32} {L : Nat → Nat → Int64} {R : Nat → Nat → Option Nat} : aSh (sh0, I, L, R) 63 = some (3, 20) := rfl
theorem s64 {I : Nat → Nat → Int32} {L : Nat → Nat → Int64} {R : Nat → Nat → Option Nat} : aSh (sh0, I, L, R) 64 = some (3, 20) := rfl
theorem s65 {I : Nat → Nat → Int32} {L : Nat → Nat → Int64} {R : Nat → Nat → Option Nat} : aSh (sh0, I, L, R) 65 = some (3, 20) := rfl
theorem s66 {I : Nat → Nat → Int32} {L : Nat → Nat → Int64} {R : Nat → Nat → Option Nat} : aSh (sh0, I, L, R) 66 = some (3, 20) := rfl
theorem s67 {I : Nat → Nat → Int32} {L : Nat → Nat → Int64} {R : Nat → Nat → Option Nat} : aSh (sh0, I, L, R) 67 = some (3, 20) := rfl
theorem s68 {I : Nat → Nat → Int32} {L : Nat → Nat → Int64} {R : Nat → Nat → Option Nat} : aSh (sh0, I, L, R) 68 = some (3, 20) := rfl
theorem s69 {I : Nat → Nat → Int32} {L : Nat → Nat → Int64} {R : Nat → Nat → Option Nat} : aSh (sh0, I, L, R) 69 = some (3, 20) := rfl
theorem s70 {I : Nat → Nat → Int32} {L : Nat → Nat → Int64} {R : Nat → Nat → Option Nat} : aSh (sh0, I, L, R) 70 = some (3, 20) := rfl
theorem s71 {I : Nat → Nat → Int32} {L : Nat → Nat → Int64} {R : Nat → Nat → Option Nat} : aSh (sh0, I, L, R) 71 = some (3, 20) := rfl
theorem s72 {I : Nat → Nat → Int32} {L : Nat → Nat → Int64} {R : Nat → Nat → Option Nat} : aSh (sh0, I, L, R) 72 = some (3, 20) := rfl
theorem s73 {I : Nat → Nat → Int32} {L : Nat → Nat → Int64} {R : Nat → Nat → Option Nat} : aSh (sh0, I, L, R) 73 = some (3, 20) := rfl
theorem s74 {I : Nat → Nat → Int32} {L : Nat → Nat → Int64} {R : Nat → Nat → Option Nat} : aSh (sh0, I, L, R) 74 = some (3, 20) := rfl
theorem s75 {I : Nat → Nat → Int32} {L : Nat → Nat → Int64} {R : Nat → Nat → Option Nat} : aSh (sh0, I, L, R) 75 = some (3, 20) := rfl
theorem s76 {I : Nat → Nat → Int32} {L : Nat → Nat → Int64} {R : Nat → Nat → Option Nat} : aSh (sh0, I, L, R) 76 = some (0, 20) := rfl
theorem s77 {I : Nat → Nat → Int32} {L : Nat → Nat → Int64} {R : Nat → Nat → Option Nat} : aSh (sh0, I, L, R) 77 = some (10 + 6, 0) := rfl
theorem s78 {I : Nat → Nat → Int32} {L : Nat → Nat → Int64} {R : Nat → Nat → Option Nat} : aSh (sh0, I, L, R) 78 = some (4, 22) := rfl
theorem s79 {I : Nat → Nat → Int32} {L : Nat → Nat → Int64} {R : Nat → Nat → Option Nat} : aSh (sh0, I, L, R) 79 = some (5, 20) := rfl
theorem s80 {I : Nat → Nat → Int32} {L : Nat → Nat → Int64} {R : Nat → Nat → Option Nat} : aSh (sh0, I, L, R) 80 = some (3, 21) := rfl
theorem s81 {I : Nat → Nat → Int32} {L : Nat → Nat → Int64} {R : Nat → Nat → Option Nat} : aSh (sh0, I, L, R) 81 = some (3, 21) := rfl
theorem s82 {I : Nat → Nat → Int32} {L : Nat → Nat → Int64} {R : Nat → Nat → Option Nat} : aSh (sh0, I, L, R) 82 = some (3, 21) := rfl
theorem s83 {I : Nat → Nat → Int32} {L : Nat → Nat → Int64} {R : Nat → Nat → Option Nat} : aSh (sh0, I, L, R) 83 = some (3, 21) := rfl
theorem s84 {I : Nat → Nat → Int32} {L : Nat → Nat → Int64} {R : Nat → Nat → Option Nat} : aSh (sh0, I, L, R) 84 = some (3, 21) := rfl
theorem s85 {I : Nat → Nat → Int32} {L : Nat → Nat → Int64} {R : Nat → Nat → Option Nat} : aSh (sh0, I, L, R) 85 = some (3, 21) := rfl
theorem s86 {I : Nat → Nat → Int32} {L : Nat → Nat → Int64} {R : Nat → Nat → Option Nat} : aSh (sh0, I, L, R) 86 = some (3, 21) := rfl
theorem s87 {I : Nat → Nat → Int32} {L : Nat → Nat → Int64} {R : Nat → Nat → Option Nat} : aSh (sh0, I, L, R) 87 = some (3, 21) := rfl
theorem s88 {I : Nat → Nat → Int32} {L : Nat → Nat → Int64} {R : Nat → Nat → Option Nat} : aSh (sh0, I, L, R) 88 = some (3, 21) := rfl
theorem s89 {I : Nat → Nat → Int32} {L : Nat → Nat → Int64} {R : Nat → Nat → Option Nat} : aSh (sh0, I, L, R) 89 = some (3, 21) := rfl
theorem s90 {I : Nat → Nat → Int32} {L : Nat → Nat → Int64} {R : Nat → Nat → Option Nat} : aSh (sh0, I, L, R) 90 = some (3, 21) := rfl
theorem s91 {I : Nat → Nat → Int32} {L : Nat → Nat → Int64} {R : Nat → Nat → Option Nat} : aSh (sh0, I, L, R) 91 = some (3, 21) := rfl
theorem s92 {I : Nat → Nat → Int32} {L : Nat → Nat → Int64} {R : Nat → Nat → Option Nat} : aSh (sh0, I, L, R) 92 = some (3, 21) := rfl
theorem s93 {I : Nat → Nat → Int32} {L : Nat → Nat → Int64} {R : Nat → Nat → Option Nat} : aSh (sh0, I, L, R) 93 = some (3, 21) := rfl
theorem s94 {I : Nat → Nat → Int32} {L : Nat → Nat → Int64} {R : Nat → Nat → Option Nat} : aSh (sh0, I, L, R) 94 = some (3, 21) := rfl
theorem s95 {I : Nat → Nat → Int32} {L : Nat → Nat → Int64} {R : Nat → Nat → Option Nat} : aSh (sh0, I, L, R) 95 = some (3, 21) := rfl
theorem s96 {I : Nat → Nat → Int32} {L : Nat → Nat → Int64} {R : Nat → Nat → Option Nat} : aSh (sh0, I, L, R) 96 = some (3, 21) := rfl
theorem s97 {I : Nat → Nat → Int32} {L : Nat → Nat → Int64} {R : Nat → Nat → Option Nat} : aSh (sh0, I, L, R) 97 = some (3, 21) := rfl
theorem s98 {I : Nat → Nat → Int32} {L : Nat → Nat → Int64} {R : Nat → Nat → Option Nat} : aSh (sh0, I, L, R) 98 = some (3, 21) := rfl
theorem s99 {I : Nat → Nat → Int32} {L : Nat → Nat → Int64} {R : Nat → Nat → Option Nat} : aSh (sh0, I, L, R) 99 = some (3, 21) := rfl
theorem s100 {I : Nat → Nat → Int32} {L : Nat → Nat → Int64} {R : Nat → Nat → Option Nat} : aSh (sh0, I, L, R) 100 = some (5, 11) := rfl
theorem s101 {I : Nat → Nat → Int32} {L : Nat → Nat → Int64} {R : Nat → Nat → Option Nat} : aSh (sh0, I, L, R) 101 = some (3, 22) := rfl
theorem s102 {I : Nat → Nat → Int32} {L : Nat → Nat → Int64} {R : Nat → Nat → Option Nat} : aSh (sh0, I, L, R) 102 = some (3, 22) := rfl
theorem s103 {I : Nat → Nat → Int32} {L : Nat → Nat → Int64} {R : Nat → Nat → Option Nat} : aSh (sh0, I, L, R) 103 = some (3, 22) := rfl
theorem s104 {I : Nat → Nat → Int32} {L : Nat → Nat → Int64} {R : Nat → Nat → Option Nat} : aSh (sh0, I, L, R) 104 = some (3, 22) := rfl
theorem s105 {I : Nat → Nat → Int32} {L : Nat → Nat → Int64} {R : Nat → Nat → Option Nat} : aSh (sh0, I, L, R) 105 = some (3, 22) := rfl
theorem s106 {I : Nat → Nat → Int32} {L : Nat → Nat → Int64} {R : Nat → Nat → Option Nat} : aSh (sh0, I, L, R) 106 = some (3, 22) := rfl
theorem s107 {I : Nat → Nat → Int32} {L : Nat → Nat → Int64} {R : Nat → Nat → Option Nat} : aSh (sh0, I, L, R) 107 = some (3, 22) := rfl
theorem s108 {I : Nat → Nat → Int32} {L : Nat → Nat → Int64} {R : Nat → Nat → Option Nat} : aSh (sh0, I, L, R) 108 = some (3, 22) := rfl
theorem s109 {I : Nat → Nat → Int32} {L : Nat → Nat → Int64} {R : Nat → Nat → Option Nat} : aSh (sh0, I, L, R) 109 = some (3, 22) := rfl
theorem s110 {I : Nat → Nat → Int32} {L : Nat → Nat → Int64} {R : Nat → Nat → Option Nat} : aSh (sh0, I, L, R) 110 = some (3, 22) := rfl
theorem s111 {I : Nat → Nat → Int32} {L : Nat → Nat → Int64} {R : Nat → Nat → Option Nat} : aSh (sh0, I, L, R) 111 = some (3, 22) := rfl
theorem s112 {I : Nat → Nat → Int32} {L : Nat → Nat → Int64} {R : Nat → Nat → Option Nat} : aSh (sh0, I, L, R) 112 = some (3, 11) := rfl
theorem s113 {I : Nat → Nat → Int32} {L : Nat → Nat → Int64} {R : Nat → Nat → Option Nat} : aSh (sh0, I, L, R) 113 = some (3, 11) := rfl
theorem s114 {I : Nat → Nat → Int32} {L : Nat → Nat → Int64} {R : Nat → Nat → Option Nat} : aSh (sh0, I, L, R) 114 = some (3, 11) := rfl
theorem s115 {I : Nat → Nat → Int32} {L : Nat → Nat → Int64} {R : Nat → Nat → Option Nat} : aSh (sh0, I, L, R) 115 = some (10 + 9, 0) := rfl
theorem s116 {I : Nat → Nat → Int32} {L : Nat → Nat → Int64} {R : Nat → Nat → Option Nat} : aSh (sh0, I, L, R) 116 = some (0, 12) := rfl
theorem s117 {I : Nat → Nat → Int32} {L : Nat → Nat → Int64} {R : Nat → Nat → Option Nat} : aSh (sh0, I, L, R) 117 = some (10 + 9, 0) := rfl
theorem s118 {I : Nat → Nat → Int32} {L : Nat → Nat → Int64} {R : Nat → Nat → Option Nat} : aSh (sh0, I, L, R) 118 = some (0, 12) := rfl
theorem s119 {I : Nat → Nat → Int32} {L : Nat → Nat → Int64} {R : Nat → Nat → Option Nat} : aSh (sh0, I, L, R) 119 = some (10 + 9, 0) := rfl
theorem s120 {I : Nat → Nat → Int32} {L : Nat → Nat → Int64} {R : Nat → Nat → Option Nat} : aSh (sh0, I, L, R) 120 = some (0, 12) := rfl
theorem s121 {I : Nat → Nat → Int32} {L : Nat → Nat → Int64} {R : Nat → Nat → Option Nat} : aSh (sh0, I, L, R) 121 = some (10 + 9, 0) := rfl
theorem s122 {I : Nat → Nat → Int32} {L : Nat → Nat → Int64} {R : Nat → Nat → Option Nat} : aSh (sh0, I, L, R) 122 = some (0, 12) := rfl
theorem s123 {I : Nat → Nat → Int32} {L : Nat → Nat → Int64} {R : Nat → Nat → Option Nat} : aSh (sh0, I, L, R) 123 = some (10 + 9, 0) := rfl
theorem s124 {I : Nat → Nat → Int32} {L : Nat → Nat → Int64} {R : Nat → Nat → Option Nat} : aSh (sh0, I, L, R) 124 = some (0, 12) := rfl
theorem s125 {I : Nat → Nat → Int32} {L : Nat → Nat → Int64} {R : Nat → Nat → Option Nat} : aSh (sh0, I, L, R) 125 = some (10 + 9, 0) := rfl
theorem s126 {I : Nat → Nat → Int32} {L : Nat → Nat → Int64} {R : Nat → Nat → Option Nat} : aSh (sh0, I, L, R) 126 = some (0, 12) := rfl
theorem s127 {I : Nat → Nat → Int32} {L : Nat → Nat → Int64} {R : Nat → Nat → Option Nat} : aSh (sh0, I, L, R) 127 = some (10 + 9, 0) := rfl
theorem s128 {I : Nat → Nat → Int32} {L : Nat → Nat → Int64} {R : Nat → Nat → Option Nat} : aSh (sh0, I, L, R) 128 = some (0, 12) := rfl
theorem s129 {I : Nat → Nat → Int32} {L : Nat → Nat → Int64} {R : Nat → Nat → Option Nat} : aSh (sh0, I, L, R) 129 = some (10 + 9, 0) := rfl
theorem s130 {I : Nat → Nat → Int32} {L : Nat → Nat → Int64} {R : Nat → Nat → Option Nat} : aSh (sh0, I, L, R) 130 = some (0, 12) := rfl
theorem s131 {I : Nat → Nat → Int32} {L : Nat → Nat → Int64} {R : Nat → Nat → Option Nat} : aSh (sh0, I, L, R) 131 = some (10 + 9, 0) := rfl
theorem s132 {I : Nat → Nat → Int32} {L : Nat → Nat → Int64} {R : Nat → Nat → Option Nat} : aSh (sh0, I, L, R) 132 = some (0, 12) := rfl
theorem s133 {I : Nat → Nat → Int32} {L : Nat → Nat → Int64} {R : Nat → Nat → Option Nat} : aSh (sh0, I, L, R) 133 = some (10 + 9, 0) := rfl
theorem s134 {I : Nat → Nat → Int32} {L : Nat → Nat → Int64} {R : Nat → Nat → Option Nat} : aSh (sh0, I, L, R) 134 = some (0, 12) := rfl
theorem s135 {I : Nat → Nat → Int32} {L : Nat → Nat → Int64} {R : Nat → Nat → Option Nat} : aSh (sh0, I, L, R) 135 = some (10 + 9, 0) := rfl
theorem s136 {I : Nat → Nat → Int32} {L : Nat → Nat → Int64} {R : Nat → Nat → Option Nat} : aSh (sh0, I, L, R) 136 = some (0, 12) := rfl
theorem s137 {I : Nat → Nat → Int32} {L : Nat → Nat → Int64} {R : Nat → Nat → Option Nat} : aSh (sh0, I, L, R) 137 = some (10 + 9, 0) := rfl
theorem s138 {I : Nat → Nat → Int32} {L : Nat → Nat → Int64} {R : Nat → Nat → Option Nat} : aSh (sh0, I, L, R) 138 = some (0, 12) := rfl
theorem s139 {I : Nat → Nat → Int32} {L : Nat → Nat → Int64} {R : Nat → Nat → Option Nat} : aSh (sh0, I, L, R) 139 = some (10 + 9, 0) := rfl
theorem s140 {I : Nat → Nat → Int32} {L : Nat → Nat → Int64} {R : Nat → Nat → Option Nat} : aSh (sh0, I, L, R) 140 = some (0, 12) := rfl
theorem s141 {I : Nat → Nat → Int32} {L : Nat → Nat → Int64} {R : Nat → Nat → Option Nat} : aSh (sh0, I, L, R) 141 = some (10 + 9, 0) := rfl
theorem s142 {I : Nat → Nat → Int32} {L : Nat → Nat → Int64} {R : Nat → Nat → Option Nat} : aSh (sh0, I, L, R) 142 = some (0, 12) := rfl
theorem s143 {I : Nat → Nat → Int32} {L : Nat → Nat → Int64} {R : Nat → Nat → Option Nat} : aSh (sh0, I, L, R) 143 = some (10 + 9, 0) := rfl
theorem s144 {I : Nat → Nat → Int32} {L : Nat → Nat → Int64} {R : Nat → Nat → Option Nat} : aSh (sh0, I, L, R) 144 = some (0, 12) := rfl
theorem s145 {I : Nat → Nat → Int32} {L : Nat → Nat → Int64} {R : Nat → Nat → Option Nat} : aSh (sh0, I, L, R) 145 = some (10 + 9, 0) := rfl
theorem s146 {I : Nat → Nat → Int32} {L : Nat → Nat → Int64} {R : Nat → Nat → Option Nat} : aSh (sh0, I, L, R) 146 = some (0, 12) := rfl
theorem s147 {I : Nat → Nat → Int32} {L : Nat → Nat → Int64} {R : Nat → Nat → Option Nat} : aSh (sh0, I, L, R) 147 = some (10 + 9, 0) := rfl
theorem s148 {I : Nat → Nat → Int32} {L : Nat → Nat → Int64} {R : Nat → Nat → Option Nat} : aSh (sh0, I, L, R) 148 = some (0, 12) := rfl
theorem s149 {I : Nat → Nat → Int32} {L : Nat → Nat → Int64} {R : Nat → Nat → Option Nat} : aSh (sh0, I, L, R) 149 = some (10 + 9, 0) := rfl
theorem s150 {I : Nat → Nat → Int32} {L : Nat → Nat → Int64} {R : Nat → Nat → Option Nat} : aSh (sh0, I, L, R) 150 = some (0, 12) := rfl
theorem s151 {I : Nat → Nat → Int32} {L : Nat → Nat → Int64} {R : Nat → Nat → Option Nat} : aSh (sh0, I, L, R) 151 = some (10 + 9, 0) := rfl
theorem s152 {I : Nat → Nat → Int32} {L : Nat → Nat → Int64} {R : Nat → Nat → Option Nat} : aSh (sh0, I, L, R) 152 = some (0, 12) := rfl
theorem s153 {I : Nat → Nat → Int32} {L : Nat → Nat → Int64} {R : Nat → Nat → Option Nat} : aSh (sh0, I, L, R) 153 = some (10 + 9, 0) := rfl
theorem s154 {I : Nat → Nat → Int32} {L : Nat → Nat → Int64} {R : Nat → Nat → Option Nat} : aSh (sh0, I, L, R) 154 = some (0, 12) := rfl
theorem s155 {I : Nat → Nat → Int32} {L : Nat → Nat → Int64} {R : Nat → Nat → Option Nat} : aSh (sh0, I, L, R) 155 = some (10 + 9, 0) := rfl
theorem s156 {I : Nat → Nat → Int32} {L : Nat → Nat → Int64} {R : Nat → Nat → Option Nat} : aSh (sh0, I, L, R) 156 = some (0, 12) := rfl
theorem s157 {I : Nat → Nat → Int32} {L : Nat → Nat → Int64} {R : Nat → Nat → Option Nat} : aSh (sh0, I, L, R) 157 = some (10 + 9, 0) := rfl
theorem s158 {I : Nat → Nat → Int32} {L : Nat → Nat → Int64} {R : Nat → Nat → Option Nat} : aSh (sh0, I, L, R) 158 = some (0, 12) := rfl
theorem s159 {I : Nat → Nat → Int32} {L : Nat → Nat → Int64} {R : Nat → Nat → Option Nat} : aSh (sh0, I, L, R) 159 = some (10 + 11, 0) := rfl
theorem s160 {I : Nat → Nat → Int32} {L : Nat → Nat → Int64} {R : Nat → Nat → Option Nat} : aSh (sh0, I, L, R) 160 = some (0, 16) := rfl
theorem s161 {I : Nat → Nat → Int32} {L : Nat → Nat → Int64} {R : Nat → Nat → Option Nat} : aSh (sh0, I, L, R) 161 = some (0, 16) := rfl
theorem s162 {I : Nat → Nat → Int32} {L : Nat → Nat → Int64} {R : Nat → Nat → Option Nat} : aSh (sh0, I, L, R) 162 = some (0, 16) := rfl
theorem s163 {I : Nat → Nat → Int32} {L : Nat → Nat → Int64} {R : Nat → Nat → Option Nat} : aSh (sh0, I, L, R) 163 = some (1, 16) := rfl
theorem s164 {I : Nat → Nat → Int32} {L : Nat → Nat → Int64} {R : Nat → Nat → Option Nat} : aSh (sh0, I, L, R) 164 = some (0, 12) := rfl
theorem s165 {I : Nat → Nat → Int32} {L : Nat → Nat → Int64} {R : Nat → Nat → Option Nat} : aSh (sh0, I, L, R) 165 = some (0, 36) := rfl
theorem s166 {I : Nat → Nat → Int32} {L : Nat → Nat → Int64} {R : Nat → Nat → Option Nat} : aSh (sh0, I, L, R) 166 = some (0, 36) := rfl
theorem s167 {I : Nat → Nat → Int32} {L : Nat → Nat → Int64} {R : Nat → Nat → Option Nat} : aSh (sh0, I, L, R) 167 = some (0, 216) := rfl
theorem s168 {I : Nat → Nat → Int32} {L : Nat → Nat → Int64} {R : Nat → Nat → Option Nat} : aSh (sh0, I, L, R) 168 = some (0, 6) := rfl
theorem s169 {I : Nat → Nat → Int32} {L : Nat → Nat → Int64} {R : Nat → Nat → Option Nat} : aSh (sh0, I, L, R) 169 = some (0, 6) := rfl
theorem s170 {I : Nat → Nat → Int32} {L : Nat → Nat → Int64} {R : Nat → Nat → Option Nat} : aSh (sh0, I, L, R) 170 = some (0, 5) := rfl
theorem s171 {I : Nat → Nat → Int32} {L : Nat → Nat → Int64} {R : Nat → Nat → Option Nat} : aSh (sh0, I, L, R) 171 = some (0, 32) := rfl
theorem s172 {I : Nat → Nat → Int32} {L : Nat → Nat → Int64} {R : Nat → Nat → Option Nat} : aSh (sh0, I, L, R) 172 = some (0, 32) := rfl
theorem s173 {I : Nat → Nat → Int32} {L : Nat → Nat → Int64} {R : Nat → Nat → Option Nat} : aSh (sh0, I, L, R) 173 = some (0, 32) := rfl
theorem s174 {I : Nat → Nat → Int32} {L : Nat → Nat → Int64} {R : Nat → Nat → Option Nat} : aSh (sh0, I, L, R) 174 = some (0, 32) := rfl
theorem s175 {I : Nat → Nat → Int32} {L : Nat → Nat → Int64} {R : Nat → Nat → Option Nat} : aSh (sh0, I, L, R) 175 = some (0, 32) := rfl
theorem s176 {I : Nat → Nat → Int32} {L : Nat → Nat → Int64} {R : Nat → Nat → Option Nat} : aSh (sh0, I, L, R) 176 = some (0, 32) := rfl
theorem s177 {I : Nat → Nat → Int32} {L : Nat → Nat → Int64} {R : Nat → Nat → Option Nat} : aSh (sh0, I, L, R) 177 = some (0, 512) := rfl
theorem s178 {I : Nat → Nat → Int32} {L : Nat → Nat → Int64} {R : Nat → Nat → Option Nat} : aSh (sh0, I, L, R) 178 = some (0, 32) := rfl
theorem s179 {I : Nat → Nat → Int32} {L : Nat → Nat → Int64} {R : Nat → Nat → Option Nat} : aSh (sh0, I, L, R) 179 = some (0, 32) := rfl
theorem s180 {I : Nat → Nat → Int32} {L : Nat → Nat → Int64} {R : Nat → Nat → Option Nat} : aSh (sh0, I, L, R) 180 = some (3, 2048) := rfl
theorem s181 {I : Nat → Nat → Int32} {L : Nat → Nat → Int64} {R : Nat → Nat → Option Nat} : aSh (sh0, I, L, R) 181 = some (0, 32768) := rfl
theorem s182 {I : Nat → Nat → Int32} {L : Nat → Nat → Int64} {R : Nat → Nat → Option Nat} : aSh (sh0, I, L, R) 182 = some (3, 400) := rfl
theorem s183 {I : Nat → Nat → Int32} {L : Nat → Nat → Int64} {R : Nat → Nat → Option Nat} : aSh (sh0, I, L, R) 183 = some (3, 20) := rfl
theorem s184 {I : Nat → Nat → Int32} {L : Nat → Nat → Int64} {R : Nat → Nat → Option Nat} : aSh (sh0, I, L, R) 184 = some (0, 20) := rfl
theorem s185 {I : Nat → Nat → Int32} {L : Nat → Nat → Int64} {R : Nat → Nat → Option Nat} : aSh (sh0, I, L, R) 185 = some (0, 20) := rfl
theorem s186 {I : Nat → Nat → Int32} {L : Nat → Nat → Int64} {R : Nat → Nat → Option Nat} : aSh (sh0, I, L, R) 186 = some (1, 20) := rfl
theorem s187 {I : Nat → Nat → Int32} {L : Nat → Nat → Int64} {R : Nat → Nat → Option Nat} : aSh (sh0, I, L, R) 187 = some (3, 40) := rfl
theorem s188 {I : Nat → Nat → Int32} {L : Nat → Nat → Int64} {R : Nat → Nat → Option Nat} : aSh (sh0, I, L, R) 188 = some (3, 14) := rfl
theorem s189 {I : Nat → Nat → Int32} {L : Nat → Nat → Int64} {R : Nat → Nat → Option Nat} : aSh (sh0, I, L, R) 189 = some (3, 308) := rfl
theorem s190 {I : Nat → Nat → Int32} {L : Nat → Nat → Int64} {R : Nat → Nat → Option Nat} : aSh (sh0, I, L, R) 190 = some (3, 420) := rfl
theorem s191 {I : Nat → Nat → Int32} {L : Nat → Nat → Int64} {R : Nat → Nat → Option Nat} : aSh (sh0, I, L, R) 191 = some (3, 216) := rfl
theorem s192 {I : Nat → Nat → Int32} {L : Nat → Nat → Int64} {R : Nat → Nat → Option Nat} : aSh (sh0, I, L, R) 192 = some (3, 14) := rfl
theorem s193 {I : Nat → Nat → Int32} {L : Nat → Nat → Int64} {R : Nat → Nat → Option Nat} : aSh (sh0, I, L, R) 193 = some (2, 400) := rfl
theorem s194 {I : Nat → Nat → Int32} {L : Nat → Nat → Int64} {R : Nat → Nat → Option Nat} : aSh (sh0, I, L, R) 194 = some (0, 192) := rfl
theorem s195 {I : Nat → Nat → Int32} {L : Nat → Nat → Int64} {R : Nat → Nat → Option Nat} : aSh (sh0, I, L, R) 195 = some (0, 32) := rfl
theorem s196 {I : Nat → Nat → Int32} {L : Nat → Nat → Int64} {R : Nat → Nat → Option Nat} : aSh (sh0, I, L, R) 196 = some (0, 32) := rfl
theorem s197 {I : Nat → Nat → Int32} {L : Nat → Nat → Int64} {R : Nat → Nat → Option Nat} : aSh (sh0, I, L, R) 197 = some (0, 24) := rfl
theorem f8_0 {I : Nat → Nat → Int32} {L : Nat → Nat → Int64} {R : Nat → Nat → Option Nat} (hR : aRf R) : aVal (sh0, I, L, R) (aT 10 0) 8 0 = .ref 9 := by show va_rf (R 8 0) = _; rw [hR 8 0 9 rfl]; rfl
theorem f8_1 {I : Nat → Nat → Int32} {L : Nat → Nat → Int64} {R : Nat → Nat → Option Nat} (hR : aRf R) : aVal (sh0, I, L, R) (aT 10 1) 8 1 = .ref 10 := by show va_rf (R 8 1) = _; rw [hR 8 1 10 rfl]; rfl
theorem f8_2 {I : Nat → Nat → Int32} {L : Nat → Nat → Int64} {R : Nat → Nat → Option Nat} (hR : aRf R) : aVal (sh0, I, L, R) (aT 10 2) 8 2 = .ref 16 := by show va_rf (R 8 2) = _; rw [hR 8 2 16 rfl]; rfl
theorem f8_3 {I : Nat → Nat → Int32} {L : Nat → Nat → Int64} {R : Nat → Nat → Option Nat} (hR : aRf R) : aVal (sh0, I, L, R) (aT 10 3) 8 3 = .ref 39 := by show va_rf (R 8 3) = _; rw [hR 8 3 39 rfl]; rfl
theorem f8_4 {I : Nat → Nat → Int32} {L : Nat → Nat → Int64} {R : Nat → Nat → Option Nat} (hR : aRf R) : aVal (sh0, I, L, R) (aT 10 4) 8 4 = .ref 41 := by show va_rf (R 8 4) = _; rw [hR 8 4 41 rfl]; rfl
theorem f8_5 {I : Nat → Nat → Int32} {L : Nat → Nat → Int64} {R : Nat → Nat → Option Nat} (hR : aRf R) : aVal (sh0, I, L, R) (aT 10 5) 8 5 = .ref 49 := by show va_rf (R 8 5) = _; rw [hR 8 5 49 rfl]; rfl
theorem f8_6 {I : Nat → Nat → Int32} {L : Nat → Nat → Int64} {R : Nat → Nat → Option Nat} (hR : aRf R) : aVal (sh0, I, L, R) (aT 10 6) 8 6 = .ref 53 := by show va_rf (R 8 6) = _; rw [hR 8 6 53 rfl]; rfl
theorem f8_7 {I : Nat → Nat → Int32} {L : Nat → Nat → Int64} {R : Nat → Nat → Option Nat} (hR : aRf R) : aVal (sh0, I, L, R) (aT 10 7) 8 7 = .ref 77 := by show va_rf (R 8 7) = _; rw [hR 8 7 77 rfl]; rfl
theorem f8_8 {I : Nat → Nat → Int32} {L : Nat → Nat → Int64} {R : Nat → Nat → Option Nat} (hR : aRf R) : aVal (sh0, I, L, R) (aT 10 8) 8 8 = .ref 28 := by show va_rf (R 8 8) = _; rw [hR 8 8 28 rfl]; rfl
theorem f8_9 {I : Nat → Nat → Int32} {L : Nat → Nat → Int64} {R : Nat → Nat → Option Nat} (hR : aRf R) : aVal (sh0, I, L, R) (aT 10 9) 8 9 = .ref 37 := by show va_rf (R 8 9) = _; rw [hR 8 9 37 rfl]; rfl
theorem f10_0 {I : Nat → Nat → Int32} {L : Nat → Nat → Int64} {R : Nat → Nat → Option Nat} (hR : aRf R) : aVal (sh0, I, L, R) (aT 3 0) 10 0 = .ref 11 := by show va_rf (R 10 0) = _; rw [hR 10 0 11 rfl]; rfl
theorem f10_1 {I : Nat → Nat → Int32} {L : Nat → Nat → Int64} {R : Nat → Nat → Option Nat} (hR : aRf R) : aVal (sh0, I, L, R) (aT 3 1) 10 1 = .ref 12 := by show va_rf (R 10 1) = _; rw [hR 10 1 12 rfl]; rfl
theorem f10_2 {I : Nat → Nat → Int32} {L : Nat → Nat → Int64} {R : Nat → Nat → Option Nat} (hR : aRf R) : aVal (sh0, I, L, R) (aT 3 2) 10 2 = .ref 13 := by show va_rf (R 10 2) = _; rw [hR 10 2 13 rfl]; rfl
theorem f10_3 {I : Nat → Nat → Int32} {L : Nat → Nat → Int64} {R : Nat → Nat → Option Nat} (hR : aRf R) : aVal (sh0, I, L, R) (aT 3 3) 10 3 = .ref 14 := by show va_rf (R 10 3) = _; rw [hR 10 3 14 rfl]; rfl
theorem f10_4 {I : Nat → Nat → Int32} {L : Nat → Nat → Int64} {R : Nat → Nat → Option Nat} (hR : aRf R) : aVal (sh0, I, L, R) (aT 3 4) 10 4 = .ref 15 := by show va_rf (R 10 4) = _; rw [hR 10 4 15 rfl]; rfl
theorem f16_1 {I : Nat → Nat → Int32} {L : Nat → Nat → Int64} {R : Nat → Nat → Option Nat} (hR : aRf R) : aVal (sh0, I, L, R) (aT 5 1) 16 1 = .ref 17 := by show va_rf (R 16 1) = _; rw [hR 16 1 17 rfl]; rfl
theorem f16_2 {I : Nat → Nat → Int32} {L : Nat → Nat → Int64} {R : Nat → Nat → Option Nat} (hR : aRf R) : aVal (sh0, I, L, R) (aT 5 2) 16 2 = .ref 18 := by show va_rf (R 16 2) = _; rw [hR 16 2 18 rfl]; rfl
theorem f16_3 {I : Nat → Nat → Int32} {L : Nat → Nat → Int64} {R : Nat → Nat → Option Nat} (hR : aRf R) : aVal (sh0, I, L, R) (aT 5 3) 16 3 = .ref 19 := by show va_rf (R 16 3) = _; rw [hR 16 3 19 rfl]; rfl
theorem f16_4 {I : Nat → Nat → Int32} {L : Nat → Nat → Int64} {R : Nat → Nat → Option Nat} (hR : aRf R) : aVal (sh0, I, L, R) (aT 5 4) 16 4 = .ref 20 := by show va_rf (R 16 4) = _; rw [hR 16 4 20 rfl]; rfl
theorem f16_6 {I : Nat → Nat → Int32} {L : Nat → Nat → Int64} {R : Nat → Nat → Option Nat} (hR : aRf R) : aVal (sh0, I, L, R) (aT 5 6) 16 6 = .ref 21 := by show va_rf (R 16 6) = _; rw [hR 16 6 21 rfl]; rfl
theorem f16_7 {I : Nat → Nat → Int32} {L : Nat → Nat → Int64} {R : Nat → Nat → Option Nat} (hR : aRf R) : aVal (sh0, I, L, R) (aT 5 7) 16 7 = .ref 22 := by show va_rf (R 16 7) = _; rw [hR 16 7 22 rfl]; rfl
theorem f16_8 {I : Nat → Nat → Int32} {L : Nat → Nat → Int64} {R : Nat → Nat → Option Nat} (hR : aRf R) : aVal (sh0, I, L, R) (aT 5 8) 16 8 = .ref 23 := by show va_rf (R 16 8) = _; rw [hR 16 8 23 rfl]; rfl
theorem f16_9 {I : Nat → Nat → Int32} {L : Nat → Nat → Int64} {R : Nat → Nat → Option Nat} (hR : aRf R) : aVal (sh0, I, L, R) (aT 5 9) 16 9 = .ref 24 := by show va_rf (R 16 9) = _; rw [hR 16 9 24 rfl]; rfl
theorem f16_10 {I : Nat → Nat → Int32} {L : Nat → Nat → Int64} {R : Nat → Nat → Option Nat} (hR : aRf R) : aVal (sh0, I, L, R) (aT 5 10) 16 10 = .ref 25 := by show va_rf (R 16 10) = _; rw [hR 16 10 25 rfl]; rfl
theorem f16_12 {I : Nat → Nat → Int32} {L : Nat → Nat → Int64} {R : Nat → Nat → Option Nat} (hR : aRf R) : aVal (sh0, I, L, R) (aT 5 12) 16 12 = .ref 26 := by show va_rf (R 16 12) = _; rw [hR 16 12 26 rfl]; rfl
theorem f16_14 {I : Nat → Nat → Int32} {L : Nat → Nat → Int64} {R : Nat → Nat → Option Nat} (hR : aRf R) : aVal (sh0, I, L, R) (aT 5 14) 16 14 = .ref 27 := by show va_rf (R 16 14) = _; rw [hR 16 14 27 rfl]; rfl
theorem f28_0 {I : Nat → Nat → Int32} {L : Nat → Nat → Int64} {R : Nat → Nat → Option Nat} (hR : aRf R) : aVal (sh0, I, L, R) (aT 2 0) 28 0 = .ref 29 := by show va_rf (R 28 0) = _; rw [hR 28 0 29 rfl]; rfl
theorem f28_1 {I : Nat → Nat → Int32} {L : Nat → Nat → Int64} {R : Nat → Nat → Option Nat} (hR : aRf R) : aVal (sh0, I, L, R) (aT 2 1) 28 1 = .ref 31 := by show va_rf (R 28 1) = _; rw [hR 28 1 31 rfl]; rfl
theorem f28_2 {I : Nat → Nat → Int32} {L : Nat → Nat → Int64} {R : Nat → Nat → Option Nat} (hR : aRf R) : aVal (sh0, I, L, R) (aT 2 2) 28 2 = .ref 33 := by show va_rf (R 28 2) = _; rw [hR 28 2 33 rfl]; rfl
theorem f28_3 {I : Nat → Nat → Int32} {L : Nat → Nat → Int64} {R : Nat → Nat → Option Nat} (hR : aRf R) : aVal (sh0, I, L, R) (aT 2 3) 28 3 = .ref 35 := by show va_rf (R 28 3) = _; rw [hR 28 3 35 rfl]; rfl
theorem f29_0 {I : Nat → Nat → Int32} {L : Nat → Nat → Int64} {R : Nat → Nat → Option Nat} (hR : aRf R) : aVal (sh0, I, L, R) (aT 9 0) 29 0 = .ref 30 := by show va_rf (R 29 0) = _; rw [hR 29 0 30 rfl]; rfl
theorem f31_0 {I : Nat → Nat → Int32} {L : Nat → Nat → Int64} {R : Nat → Nat → Option Nat} (hR : aRf R) : aVal (sh0, I, L, R) (aT 9 0) 31 0 = .ref 32 := by show va_rf (R 31 0) = _; rw [hR 31 0 32 rfl]; rfl
theorem f33_0 {I : Nat → Nat → Int32} {L : Nat → Nat → Int64} {R : Nat → Nat → Option Nat} (hR : aRf R) : aVal (sh0, I, L, R) (aT 9 0) 33 0 = .ref 34 := by show va_rf (R 33 0) = _; rw [hR 33 0 34 rfl]; rfl
theorem f35_0 {I : Nat → Nat → Int32} {L : Nat → Nat → Int64} {R : Nat → Nat → Option Nat} (hR : aRf R) : aVal (sh0, I, L, R) (aT 9 0) 35 0 = .ref 36 := by show va_rf (R 35 0) = _; rw [hR 35 0 36 rfl]; rfl
theorem f37_0 {I : Nat → Nat → Int32} {L : Nat → Nat → Int64} {R : Nat → Nat → Option Nat} (hR : aRf R) : aVal (sh0, I, L, R) (aT 8 0) 37 0 = .ref 38 := by show va_rf (R 37 0) = _; rw [hR 37 0 38 rfl]; rfl
theorem f39_0 {I : Nat → Nat → Int32} {L : Nat → Nat → Int64} {R : Nat → Nat → Option Nat} (hR : aRf R) : aVal (sh0, I, L, R) (aT 4 0) 39 0 = .ref 16 := by show va_rf (R 39 0) = _; rw [hR 39 0 16 rfl]; rfl
theorem f39_1 {I : Nat → Nat → Int32} {L : Nat → Nat → Int64} {R : Nat → Nat → Option Nat} (hR : aRf R) : aVal (sh0, I, L, R) (aT 4 1) 39 1 = .ref 10 := by show va_rf (R 39 1) = _; rw [hR 39 1 10 rfl]; rfl
theorem f39_2 {I : Nat → Nat → Int32} {L : Nat → Nat → Int64} {R : Nat → Nat → Option Nat} (hR : aRf R) : aVal (sh0, I, L, R) (aT 4 2) 39 2 = .ref 40 := by show va_rf (R 39 2) = _; rw [hR 39 2 40 rfl]; rfl
theorem f41_0 {I : Nat → Nat → Int32} {L : Nat → Nat → Int64} {R : Nat → Nat → Option Nat} (hR : aRf R) : aVal (sh0, I, L, R) (aT 1 0) 41 0 = .ref 16 := by show va_rf (R 41 0) = _; rw [hR 41 0 16 rfl]; rfl
theorem f41_1 {I : Nat → Nat → Int32} {L : Nat → Nat → Int64} {R : Nat → Nat → Option Nat} (hR : aRf R) : aVal (sh0, I, L, R) (aT 1 1) 41 1 = .ref 39 := by show va_rf (R 41 1) = _; rw [hR 41 1 39 rfl]; rfl
theorem f41_2 {I : Nat → Nat → Int32} {L : Nat → Nat → Int64} {R : Nat → Nat → Option Nat} (hR : aRf R) : aVal (sh0, I, L, R) (aT 1 2) 41 2 = .ref 9 := by show va_rf (R 41 2) = _; rw [hR 41 2 9 rfl]; rfl
theorem f41_3 {I : Nat → Nat → Int32} {L : Nat → Nat → Int64} {R : Nat → Nat → Option Nat} (hR : aRf R) : aVal (sh0, I, L, R) (aT 1 3) 41 3 = .ref 42 := by show va_rf (R 41 3) = _; rw [hR 41 3 42 rfl]; rfl
theorem f41_4 {I : Nat → Nat → Int32} {L : Nat → Nat → Int64} {R : Nat → Nat → Option Nat} (hR : aRf R) : aVal (sh0, I, L, R) (aT 1 4) 41 4 = .ref 43 := by show va_rf (R 41 4) = _; rw [hR 41 4 43 rfl]; rfl
theorem f41_5 {I : Nat → Nat → Int32} {L : Nat → Nat → Int64} {R : Nat → Nat → Option Nat} (hR : aRf R) : aVal (sh0, I, L, R) (aT 1 5) 41 5 = .ref 44 := by show va_rf (R 41 5) = _; rw [hR 41 5 44 rfl]; rfl
theorem f41_6 {I : Nat → Nat → Int32} {L : Nat → Nat → Int64} {R : Nat → Nat → Option Nat} (hR : aRf R) : aVal (sh0, I, L, R) (aT 1 6) 41 6 = .ref 45 := by show va_rf (R 41 6) = _; rw [hR 41 6 45 rfl]; rfl
theorem f41_7 {I : Nat → Nat → Int32} {L : Nat → Nat → Int64} {R : Nat → Nat → Option Nat} (hR : aRf R) : aVal (sh0, I, L, R) (aT 1 7) 41 7 = .ref 46 := by show va_rf (R 41 7) = _; rw [hR 41 7 46 rfl]; rfl
theorem f41_8 {I : Nat → Nat → Int32} {L : Nat → Nat → Int64} {R : Nat → Nat → Option Nat} (hR : aRf R) : aVal (sh0, I, L, R) (aT 1 8) 41 8 = .ref 47 := by show va_rf (R 41 8) = _; rw [hR 41 8 47 rfl]; rfl
theorem f41_9 {I : Nat → Nat → Int32} {L : Nat → Nat → Int64} {R : Nat → Nat → Option Nat} (hR : aRf R) : aVal (sh0, I, L, R) (aT 1 9) 41 9 = .ref 48 := by show va_rf (R 41 9) = _; rw [hR 41 9 48 rfl]; rfl
theorem f49_0 {I : Nat → Nat → Int32} {L : Nat → Nat → Int64} {R : Nat → Nat → Option Nat} (hR : aRf R) : aVal (sh0, I, L, R) (aT 0 0) 49 0 = .ref 16 := by show va_rf (R 49 0) = _; rw [hR 49 0 16 rfl]; rfl
theorem f49_1 {I : Nat → Nat → Int32} {L : Nat → Nat → Int64} {R : Nat → Nat → Option Nat} (hR : aRf R) : aVal (sh0, I, L, R) (aT 0 1) 49 1 = .ref 10 := by show va_rf (R 49 1) = _; rw [hR 49 1 10 rfl]; rfl
theorem f49_2 {I : Nat → Nat → Int32} {L : Nat → Nat → Int64} {R : Nat → Nat → Option Nat} (hR : aRf R) : aVal (sh0, I, L, R) (aT 0 2) 49 2 = .ref 39 := by show va_rf (R 49 2) = _; rw [hR 49 2 39 rfl]; rfl
theorem f49_3 {I : Nat → Nat → Int32} {L : Nat → Nat → Int64} {R : Nat → Nat → Option Nat} (hR : aRf R) : aVal (sh0, I, L, R) (aT 0 3) 49 3 = .ref 41 := by show va_rf (R 49 3) = _; rw [hR 49 3 41 rfl]; rfl
theorem f49_4 {I : Nat → Nat → Int32} {L : Nat → Nat → Int64} {R : Nat → Nat → Option Nat} (hR : aRf R) : aVal (sh0, I, L, R) (aT 0 4) 49 4 = .ref 50 := by show va_rf (R 49 4) = _; rw [hR 49 4 50 rfl]; rfl
theorem f49_5 {I : Nat → Nat → Int32} {L : Nat → Nat → Int64} {R : Nat → Nat → Option Nat} (hR : aRf R) : aVal (sh0, I, L, R) (aT 0 5) 49 5 = .ref 51 := by show va_rf (R 49 5) = _; rw [hR 49 5 51 rfl]; rfl
theorem f49_6 {I : Nat → Nat → Int32} {L : Nat → Nat → Int64} {R : Nat → Nat → Option Nat} (hR : aRf R) : aVal (sh0, I, L, R) (aT 0 6) 49 6 = .ref 52 := by show va_rf (R 49 6) = _; rw [hR 49 6 52 rfl]; rfl
theorem f53_0 {I : Nat → Nat → Int32} {L : Nat → Nat → Int64} {R : Nat → Nat → Option Nat} (hR : aRf R) : aVal (sh0, I, L, R) (aT 7 0) 53 0 = .ref 16 := by show va_rf (R 53 0) = _; rw [hR 53 0 16 rfl]; rfl
theorem f53_1 {I : Nat → Nat → Int32} {L : Nat → Nat → Int64} {R : Nat → Nat → Option Nat} (hR : aRf R) : aVal (sh0, I, L, R) (aT 7 1) 53 1 = .ref 39 := by show va_rf (R 53 1) = _; rw [hR 53 1 39 rfl]; rfl
theorem f53_2 {I : Nat → Nat → Int32} {L : Nat → Nat → Int64} {R : Nat → Nat → Option Nat} (hR : aRf R) : aVal (sh0, I, L, R) (aT 7 2) 53 2 = .ref 41 := by show va_rf (R 53 2) = _; rw [hR 53 2 41 rfl]; rfl
theorem f53_3 {I : Nat → Nat → Int32} {L : Nat → Nat → Int64} {R : Nat → Nat → Option Nat} (hR : aRf R) : aVal (sh0, I, L, R) (aT 7 3) 53 3 = .ref 9 := by show va_rf (R 53 3) = _; rw [hR 53 3 9 rfl]; rfl
theorem f53_7 {I : Nat → Nat → Int32} {L : Nat → Nat → Int64} {R : Nat → Nat → Option Nat} (hR : aRf R) : aVal (sh0, I, L, R) (aT 7 7) 53 7 = .ref 54 := by show va_rf (R 53 7) = _; rw [hR 53 7 54 rfl]; rfl
theorem f53_8 {I : Nat → Nat → Int32} {L : Nat → Nat → Int64} {R : Nat → Nat → Option Nat} (hR : aRf R) : aVal (sh0, I, L, R) (aT 7 8) 53 8 = .ref 75 := by show va_rf (R 53 8) = _; rw [hR 53 8 75 rfl]; rfl
theorem f53_9 {I : Nat → Nat → Int32} {L : Nat → Nat → Int64} {R : Nat → Nat → Option Nat} (hR : aRf R) : aVal (sh0, I, L, R) (aT 7 9) 53 9 = .ref 76 := by show va_rf (R 53 9) = _; rw [hR 53 9 76 rfl]; rfl
theorem f77_0 {I : Nat → Nat → Int32} {L : Nat → Nat → Int64} {R : Nat → Nat → Option Nat} (hR : aRf R) : aVal (sh0, I, L, R) (aT 6 0) 77 0 = .ref 53 := by show va_rf (R 77 0) = _; rw [hR 77 0 53 rfl]; rfl
theorem f77_1 {I : Nat → Nat → Int32} {L : Nat → Nat → Int64} {R : Nat → Nat → Option Nat} (hR : aRf R) : aVal (sh0, I, L, R) (aT 6 1) 77 1 = .ref 78 := by show va_rf (R 77 1) = _; rw [hR 77 1 78 rfl]; rfl
theorem f77_2 {I : Nat → Nat → Int32} {L : Nat → Nat → Int64} {R : Nat → Nat → Option Nat} (hR : aRf R) : aVal (sh0, I, L, R) (aT 6 2) 77 2 = .ref 79 := by show va_rf (R 77 2) = _; rw [hR 77 2 79 rfl]; rfl
theorem f77_3 {I : Nat → Nat → Int32} {L : Nat → Nat → Int64} {R : Nat → Nat → Option Nat} (hR : aRf R) : aVal (sh0, I, L, R) (aT 6 3) 77 3 = .ref 100 := by show va_rf (R 77 3) = _; rw [hR 77 3 100 rfl]; rfl
theorem f77_4 {I : Nat → Nat → Int32} {L : Nat → Nat → Int64} {R : Nat → Nat → Option Nat} (hR : aRf R) : aVal (sh0, I, L, R) (aT 6 4) 77 4 = .ref 112 := by show va_rf (R 77 4) = _; rw [hR 77 4 112 rfl]; rfl
theorem f77_5 {I : Nat → Nat → Int32} {L : Nat → Nat → Int64} {R : Nat → Nat → Option Nat} (hR : aRf R) : aVal (sh0, I, L, R) (aT 6 5) 77 5 = .ref 113 := by show va_rf (R 77 5) = _; rw [hR 77 5 113 rfl]; rfl
theorem f77_6 {I : Nat → Nat → Int32} {L : Nat → Nat → Int64} {R : Nat → Nat → Option Nat} (hR : aRf R) : aVal (sh0, I, L, R) (aT 6 6) 77 6 = .ref 114 := by show va_rf (R 77 6) = _; rw [hR 77 6 114 rfl]; rfl
theorem f115_0 {I : Nat → Nat → Int32} {L : Nat → Nat → Int64} {R : Nat → Nat → Option Nat} (hR : aRf R) : aVal (sh0, I, L, R) (aT 9 0) 115 0 = .ref 116 := by show va_rf (R 115 0) = _; rw [hR 115 0 116 rfl]; rfl
theorem f117_0 {I : Nat → Nat → Int32} {L : Nat → Nat → Int64} {R : Nat → Nat → Option Nat} (hR : aRf R) : aVal (sh0, I, L, R) (aT 9 0) 117 0 = .ref 118 := by show va_rf (R 117 0) = _; rw [hR 117 0 118 rfl]; rfl
theorem f119_0 {I : Nat → Nat → Int32} {L : Nat → Nat → Int64} {R : Nat → Nat → Option Nat} (hR : aRf R) : aVal (sh0, I, L, R) (aT 9 0) 119 0 = .ref 120 := by show va_rf (R 119 0) = _; rw [hR 119 0 120 rfl]; rfl
theorem f121_0 {I : Nat → Nat → Int32} {L : Nat → Nat → Int64} {R : Nat → Nat → Option Nat} (hR : aRf R) : aVal (sh0, I, L, R) (aT 9 0) 121 0 = .ref 122 := by show va_rf (R 121 0) = _; rw [hR 121 0 122 rfl]; rfl
theorem f123_0 {I : Nat → Nat → Int32} {L : Nat → Nat → Int64} {R : Nat → Nat → Option Nat} (hR : aRf R) : aVal (sh0, I, L, R) (aT 9 0) 123 0 = .ref 124 := by show va_rf (R 123 0) = _; rw [hR 123 0 124 rfl]; rfl
theorem f125_0 {I : Nat → Nat → Int32} {L : Nat → Nat → Int64} {R : Nat → Nat → Option Nat} (hR : aRf R) : aVal (sh0, I, L, R) (aT 9 0) 125 0 = .ref 126 := by show va_rf (R 125 0) = _; rw [hR 125 0 126 rfl]; rfl
theorem f127_0 {I : Nat → Nat → Int32} {L : Nat → Nat → Int64} {R : Nat → Nat → Option Nat} (hR : aRf R) : aVal (sh0, I, L, R) (aT 9 0) 127 0 = .ref 128 := by show va_rf (R 127 0) = _; rw [hR 127 0 128 rfl]; rfl
theorem f129_0 {I : Nat → Nat → Int32} {L : Nat → Nat → Int64} {R : Nat → Nat → Option Nat} (hR : aRf R) : aVal (sh0, I, L, R) (aT 9 0) 129 0 = .ref 130 := by show va_rf (R 129 0) = _; rw [hR 129 0 130 rfl]; rfl
theorem f131_0 {I : Nat → Nat → Int32} {L : Nat → Nat → Int64} {R : Nat → Nat → Option Nat} (hR : aRf R) : aVal (sh0, I, L, R) (aT 9 0) 131 0 = .ref 132 := by show va_rf (R 131 0) = _; rw [hR 131 0 132 rfl]; rfl
theorem f133_0 {I : Nat → Nat → Int32} {L : Nat → Nat → Int64} {R : Nat → Nat → Option Nat} (hR : aRf R) : aVal (sh0, I, L, R) (aT 9 0) 133 0 = .ref 134 := by show va_rf (R 133 0) = _; rw [hR 133 0 134 rfl]; rfl
theorem f135_0 {I : Nat → Nat → Int32} {L : Nat → Nat → Int64} {R : Nat → Nat → Option Nat} (hR : aRf R) : aVal (sh0, I, L, R) (aT 9 0) 135 0 = .ref 136 := by show va_rf (R 135 0) = _; rw [hR 135 0 136 rfl]; rfl
theorem f137_0 {I : Nat → Nat → Int32} {L : Nat → Nat → Int64} {R : Nat → Nat → Option Nat} (hR : aRf R) : aVal (sh0, I, L, R) (aT 9 0) 137 0 = .ref 138 := by show va_rf (R 137 0) = _; rw [hR 137 0 138 rfl]; rfl
theorem f139_0 {I : Nat → Nat → Int32} {L : Nat → Nat → Int64} {R : Nat → Nat → Option Nat} (hR : aRf R) : aVal (sh0, I, L, R) (aT 9 0) 139 0 = .ref 140 := by show va_rf (R 139 0) = _; rw [hR 139 0 140 rfl]; rfl
theorem f141_0 {I : Nat → Nat → Int32} {L : Nat → Nat → Int64} {R : Nat → Nat → Option Nat} (hR : aRf R) : aVal (sh0, I, L, R) (aT 9 0) 141 0 = .ref 142 := by show va_rf (R 141 0) = _; rw [hR 141 0 142 rfl]; rfl
theorem f143_0 {I : Nat → Nat → Int32} {L : Nat → Nat → Int64} {R : Nat → Nat → Option Nat} (hR : aRf R) : aVal (sh0, I, L, R) (aT 9 0) 143 0 = .ref 144 := by show va_rf (R 143 0) = _; rw [hR 143 0 144 rfl]; rfl
theorem f145_0 {I : Nat → Nat → Int32} {L : Nat → Nat → Int64} {R : Nat → Nat → Option Nat} (hR : aRf R) : aVal (sh0, I, L, R) (aT 9 0) 145 0 = .ref 146 := by show va_rf (R 145 0) = _; rw [hR 145 0 146 rfl]; rfl
theorem f147_0 {I : Nat → Nat → Int32} {L : Nat → Nat → Int64} {R : Nat → Nat → Option Nat} (hR : aRf R) : aVal (sh0, I, L, R) (aT 9 0) 147 0 = .ref 148 := by show va_rf (R 147 0) = _; rw [hR 147 0 148 rfl]; rfl
theorem f149_0 {I : Nat → Nat → Int32} {L : Nat → Nat → Int64} {R : Nat → Nat → Option Nat} (hR : aRf R) : aVal (sh0, I, L, R) (aT 9 0) 149 0 = .ref 150 := by show va_rf (R 149 0) = _; rw [hR 149 0 150 rfl]; rfl
theorem f151_0 {I : Nat → Nat → Int32} {L : Nat → Nat → Int64} {R : Nat → Nat → Option Nat} (hR : aRf R) : aVal (sh0, I, L, R) (aT 9 0) 151 0 = .ref 152 := by show va_rf (R 151 0) = _; rw [hR 151 0 152 rfl]; rfl
theorem f153_0 {I : Nat → Nat → Int32} {L : Nat → Nat → Int64} {R : Nat → Nat → Option Nat} (hR : aRf R) : aVal (sh0, I, L, R) (aT 9 0) 153 0 = .ref 154 := by show va_rf (R 153 0) = _; rw [hR 153 0 154 rfl]; rfl
theorem f155_0 {I : Nat → Nat → Int32} {L : Nat → Nat → Int64} {R : Nat → Nat → Option Nat} (hR : aRf R) : aVal (sh0, I, L, R) (aT 9 0) 155 0 = .ref 156 := by show va_rf (R 155 0) = _; rw [hR 155 0 156 rfl]; rfl
theorem f157_0 {I : Nat → Nat → Int32} {L : Nat → Nat → Int64} {R : Nat → Nat → Option Nat} (hR : aRf R) : aVal (sh0, I, L, R) (aT 9 0) 157 0 = .ref 158 := by show va_rf (R 157 0) = _; rw [hR 157 0 158 rfl]; rfl
theorem f159_1 {I : Nat → Nat → Int32} {L : Nat → Nat → Int64} {R : Nat → Nat → Option Nat} (hR : aRf R) : aVal (sh0, I, L, R) (aT 11 1) 159 1 = .ref 160 := by show va_rf (R 159 1) = _; rw [hR 159 1 160 rfl]; rfl
theorem f159_2 {I : Nat → Nat → Int32} {L : Nat → Nat → Int64} {R : Nat → Nat → Option Nat} (hR : aRf R) : aVal (sh0, I, L, R) (aT 11 2) 159 2 = .ref 161 := by show va_rf (R 159 2) = _; rw [hR 159 2 161 rfl]; rfl
theorem f159_3 {I : Nat → Nat → Int32} {L : Nat → Nat → Int64} {R : Nat → Nat → Option Nat} (hR : aRf R) : aVal (sh0, I, L, R) (aT 11 3) 159 3 = .ref 162 := by show va_rf (R 159 3) = _; rw [hR 159 3 162 rfl]; rfl
theorem f159_4 {I : Nat → Nat → Int32} {L : Nat → Nat → Int64} {R : Nat → Nat → Option Nat} (hR : aRf R) : aVal (sh0, I, L, R) (aT 11 4) 159 4 = .ref 163 := by show va_rf (R 159 4) = _; rw [hR 159 4 163 rfl]; rfl
theorem f159_5 {I : Nat → Nat → Int32} {L : Nat → Nat → Int64} {R : Nat → Nat → Option Nat} (hR : aRf R) : aVal (sh0, I, L, R) (aT 11 5) 159 5 = .ref 164 := by show va_rf (R 159 5) = _; rw [hR 159 5 164 rfl]; rfl
theorem f159_6 {I : Nat → Nat → Int32} {L : Nat → Nat → Int64} {R : Nat → Nat → Option Nat} (hR : aRf R) : aVal (sh0, I, L, R) (aT 11 6) 159 6 = .ref 165 := by show va_rf (R 159 6) = _; rw [hR 159 6 165 rfl]; rfl
theorem f159_7 {I : Nat → Nat → Int32} {L : Nat → Nat → Int64} {R : Nat → Nat → Option Nat} (hR : aRf R) : aVal (sh0, I, L, R) (aT 11 7) 159 7 = .ref 166 := by show va_rf (R 159 7) = _; rw [hR 159 7 166 rfl]; rfl
theorem f159_8 {I : Nat → Nat → Int32} {L : Nat → Nat → Int64} {R : Nat → Nat → Option Nat} (hR : aRf R) : aVal (sh0, I, L, R) (aT 11 8) 159 8 = .ref 167 := by show va_rf (R 159 8) = _; rw [hR 159 8 167 rfl]; rfl
theorem f159_9 {I : Nat → Nat → Int32} {L : Nat → Nat → Int64} {R : Nat → Nat → Option Nat} (hR : aRf R) : aVal (sh0, I, L, R) (aT 11 9) 159 9 = .ref 168 := by show va_rf (R 159 9) = _; rw [hR 159 9 168 rfl]; rfl
theorem f159_10 {I : Nat → Nat → Int32} {L : Nat → Nat → Int64} {R : Nat → Nat → Option Nat} (hR : aRf R) : aVal (sh0, I, L, R) (aT 11 10) 159 10 = .ref 169 := by show va_rf (R 159 10) = _; rw [hR 159 10 169 rfl]; rfl
theorem f159_11 {I : Nat → Nat → Int32} {L : Nat → Nat → Int64} {R : Nat → Nat → Option Nat} (hR : aRf R) : aVal (sh0, I, L, R) (aT 11 11) 159 11 = .ref 170 := by show va_rf (R 159 11) = _; rw [hR 159 11 170 rfl]; rfl
theorem f159_15 {I : Nat → Nat → Int32} {L : Nat → Nat → Int64} {R : Nat → Nat → Option Nat} (hR : aRf R) : aVal (sh0, I, L, R) (aT 11 15) 159 15 = .ref 171 := by show va_rf (R 159 15) = _; rw [hR 159 15 171 rfl]; rfl
theorem f159_16 {I : Nat → Nat → Int32} {L : Nat → Nat → Int64} {R : Nat → Nat → Option Nat} (hR : aRf R) : aVal (sh0, I, L, R) (aT 11 16) 159 16 = .ref 172 := by show va_rf (R 159 16) = _; rw [hR 159 16 172 rfl]; rfl
theorem f159_17 {I : Nat → Nat → Int32} {L : Nat → Nat → Int64} {R : Nat → Nat → Option Nat} (hR : aRf R) : aVal (sh0, I, L, R) (aT 11 17) 159 17 = .ref 173 := by show va_rf (R 159 17) = _; rw [hR 159 17 173 rfl]; rfl
theorem f159_18 {I : Nat → Nat → Int32} {L : Nat → Nat → Int64} {R : Nat → Nat → Option Nat} (hR : aRf R) : aVal (sh0, I, L, R) (aT 11 18) 159 18 = .ref 174 := by show va_rf (R 159 18) = _; rw [hR 159 18 174 rfl]; rfl
theorem f159_19 {I : Nat → Nat → Int32} {L : Nat → Nat → Int64} {R : Nat → Nat → Option Nat} (hR : aRf R) : aVal (sh0, I, L, R) (aT 11 19) 159 19 = .ref 175 := by show va_rf (R 159 19) = _; rw [hR 159 19 175 rfl]; rfl
theorem f159_20 {I : Nat → Nat → Int32} {L : Nat → Nat → Int64} {R : Nat → Nat → Option Nat} (hR : aRf R) : aVal (sh0, I, L, R) (aT 11 20) 159 20 = .ref 176 := by show va_rf (R 159 20) = _; rw [hR 159 20 176 rfl]; rfl
theorem f159_22 {I : Nat → Nat → Int32} {L : Nat → Nat → Int64} {R : Nat → Nat → Option Nat} (hR : aRf R) : aVal (sh0, I, L, R) (aT 11 22) 159 22 = .ref 177 := by show va_rf (R 159 22) = _; rw [hR 159 22 177 rfl]; rfl
theorem f159_23 {I : Nat → Nat → Int32} {L : Nat → Nat → Int64} {R : Nat → Nat → Option Nat} (hR : aRf R) : aVal (sh0, I, L, R) (aT 11 23) 159 23 = .ref 178 := by show va_rf (R 159 23) = _; rw [hR 159 23 178 rfl]; rfl
theorem f159_24 {I : Nat → Nat → Int32} {L : Nat → Nat → Int64} {R : Nat → Nat → Option Nat} (hR : aRf R) : aVal (sh0, I, L, R) (aT 11 24) 159 24 = .ref 179 := by show va_rf (R 159 24) = _; rw [hR 159 24 179 rfl]; rfl
theorem f159_25 {I : Nat → Nat → Int32} {L : Nat → Nat → Int64} {R : Nat → Nat → Option Nat} (hR : aRf R) : aVal (sh0, I, L, R) (aT 11 25) 159 25 = .ref 180 := by show va_rf (R 159 25) = _; rw [hR 159 25 180 rfl]; rfl
theorem f159_26 {I : Nat → Nat → Int32} {L : Nat → Nat → Int64} {R : Nat → Nat → Option Nat} (hR : aRf R) : aVal (sh0, I, L, R) (aT 11 26) 159 26 = .ref 181 := by show va_rf (R 159 26) = _; rw [hR 159 26 181 rfl]; rfl
theorem f159_27 {I : Nat → Nat → Int32} {L : Nat → Nat → Int64} {R : Nat → Nat → Option Nat} (hR : aRf R) : aVal (sh0, I, L, R) (aT 11 27) 159 27 = .ref 182 := by show va_rf (R 159 27) = _; rw [hR 159 27 182 rfl]; rfl
theorem f159_28 {I : Nat → Nat → Int32} {L : Nat → Nat → Int64} {R : Nat → Nat → Option Nat} (hR : aRf R) : aVal (sh0, I, L, R) (aT 11 28) 159 28 = .ref 183 := by show va_rf (R 159 28) = _; rw [hR 159 28 183 rfl]; rfl
theorem f159_29 {I : Nat → Nat → Int32} {L : Nat → Nat → Int64} {R : Nat → Nat → Option Nat} (hR : aRf R) : aVal (sh0, I, L, R) (aT 11 29) 159 29 = .ref 184 := by show va_rf (R 159 29) = _; rw [hR 159 29 184 rfl]; rfl
theorem f159_30 {I : Nat → Nat → Int32} {L : Nat → Nat → Int64} {R : Nat → Nat → Option Nat} (hR : aRf R) : aVal (sh0, I, L, R) (aT 11 30) 159 30 = .ref 185 := by show va_rf (R 159 30) = _; rw [hR 159 30 185 rfl]; rfl
theorem f159_31 {I : Nat → Nat → Int32} {L : Nat → Nat → Int64} {R : Nat → Nat → Option Nat} (hR : aRf R) : aVal (sh0, I, L, R) (aT 11 31) 159 31 = .ref 186 := by show va_rf (R 159 31) = _; rw [hR 159 31 186 rfl]; rfl
theorem f159_35 {I : Nat → Nat → Int32} {L : Nat → Nat → Int64} {R : Nat → Nat → Option Nat} (hR : aRf R) : aVal (sh0, I, L, R) (aT 11 35) 159 35 = .ref 187 := by show va_rf (R 159 35) = _; rw [hR 159 35 187 rfl]; rfl
theorem f159_37 {I : Nat → Nat → Int32} {L : Nat → Nat → Int64} {R : Nat → Nat → Option Nat} (hR : aRf R) : aVal (sh0, I, L, R) (aT 11 37) 159 37 = .ref 188 := by show va_rf (R 159 37) = _; rw [hR 159 37 188 rfl]; rfl
theorem f159_38 {I : Nat → Nat → Int32} {L : Nat → Nat → Int64} {R : Nat → Nat → Option Nat} (hR : aRf R) : aVal (sh0, I, L, R) (aT 11 38) 159 38 = .ref 189 := by show va_rf (R 159 38) = _; rw [hR 159 38 189 rfl]; rfl
theorem f159_39 {I : Nat → Nat → Int32} {L : Nat → Nat → Int64} {R : Nat → Nat → Option Nat} (hR : aRf R) : aVal (sh0, I, L, R) (aT 11 39) 159 39 = .ref 190 := by show va_rf (R 159 39) = _; rw [hR 159 39 190 rfl]; rfl
theorem f159_40 {I : Nat → Nat → Int32} {L : Nat → Nat → Int64} {R : Nat → Nat → Option Nat} (hR : aRf R) : aVal (sh0, I, L, R) (aT 11 40) 159 40 = .ref 191 := by show va_rf (R 159 40) = _; rw [hR 159 40 191 rfl]; rfl
theorem f159_41 {I : Nat → Nat → Int32} {L : Nat → Nat → Int64} {R : Nat → Nat → Option Nat} (hR : aRf R) : aVal (sh0, I, L, R) (aT 11 41) 159 41 = .ref 192 := by show va_rf (R 159 41) = _; rw [hR 159 41 192 rfl]; rfl
theorem f159_43 {I : Nat → Nat → Int32} {L : Nat → Nat → Int64} {R : Nat → Nat → Option Nat} (hR : aRf R) : aVal (sh0, I, L, R) (aT 11 43) 159 43 = .ref 193 := by show va_rf (R 159 43) = _; rw [hR 159 43 193 rfl]; rfl
theorem f159_44 {I : Nat → Nat → Int32} {L : Nat → Nat → Int64} {R : Nat → Nat → Option Nat} (hR : aRf R) : aVal (sh0, I, L, R) (aT 11 44) 159 44 = .ref 194 := by show va_rf (R 159 44) = _; rw [hR 159 44 194 rfl]; rfl
theorem f159_45 {I : Nat → Nat → Int32} {L : Nat → Nat → Int64} {R : Nat → Nat → Option Nat} (hR : aRf R) : aVal (sh0, I, L, R) (aT 11 45) 159 45 = .ref 195 := by show va_rf (R 159 45) = _; rw [hR 159 45 195 rfl]; rfl
theorem f159_46 {I : Nat → Nat → Int32} {L : Nat → Nat → Int64} {R : Nat → Nat → Option Nat} (hR : aRf R) : aVal (sh0, I, L, R) (aT 11 46) 159 46 = .ref 196 := by show va_rf (R 159 46) = _; rw [hR 159 46 196 rfl]; rfl
