def RP1 : Nat → Nat → Option Nat := aU RP0 8 0 (some 9)
theorem wP1 : ∀ a b r, RP1 a b = some r → r < 10 := wf_step (n := 10) wP0 (by decide) (by decide)
theorem oP1 : ∀ a b, 9 ≤ a → RP1 a b = none := no_step (n := 9) oP0 (by decide) (by decide)
def RP2 : Nat → Nat → Option Nat := aU RP1 10 0 (some 11)
theorem wP2 : ∀ a b r, RP2 a b = some r → r < 12 := wf_step (n := 12) wP1 (by decide) (by decide)
theorem oP2 : ∀ a b, 11 ≤ a → RP2 a b = none := no_step (n := 11) oP1 (by decide) (by decide)
def RP3 : Nat → Nat → Option Nat := aU RP2 10 1 (some 12)
theorem wP3 : ∀ a b r, RP3 a b = some r → r < 13 := wf_step (n := 13) wP2 (by decide) (by decide)
theorem oP3 : ∀ a b, 11 ≤ a → RP3 a b = none := no_step (n := 11) oP2 (by decide) (by decide)
def RP4 : Nat → Nat → Option Nat := aU RP3 10 2 (some 13)
theorem wP4 : ∀ a b r, RP4 a b = some r → r < 14 := wf_step (n := 14) wP3 (by decide) (by decide)
theorem oP4 : ∀ a b, 11 ≤ a → RP4 a b = none := no_step (n := 11) oP3 (by decide) (by decide)
def RP5 : Nat → Nat → Option Nat := aU RP4 10 3 (some 14)
theorem wP5 : ∀ a b r, RP5 a b = some r → r < 15 := wf_step (n := 15) wP4 (by decide) (by decide)
theorem oP5 : ∀ a b, 11 ≤ a → RP5 a b = none := no_step (n := 11) oP4 (by decide) (by decide)
def RP6 : Nat → Nat → Option Nat := aU RP5 10 4 (some 15)
theorem wP6 : ∀ a b r, RP6 a b = some r → r < 16 := wf_step (n := 16) wP5 (by decide) (by decide)
theorem oP6 : ∀ a b, 11 ≤ a → RP6 a b = none := no_step (n := 11) oP5 (by decide) (by decide)
def RP7 : Nat → Nat → Option Nat := aU RP6 8 1 (some 10)
theorem wP7 : ∀ a b r, RP7 a b = some r → r < 16 := wf_step (n := 16) wP6 (by decide) (by decide)
theorem oP7 : ∀ a b, 11 ≤ a → RP7 a b = none := no_step (n := 11) oP6 (by decide) (by decide)
def RP8 : Nat → Nat → Option Nat := aU RP7 16 1 (some 17)
theorem wP8 : ∀ a b r, RP8 a b = some r → r < 18 := wf_step (n := 18) wP7 (by decide) (by decide)
theorem oP8 : ∀ a b, 17 ≤ a → RP8 a b = none := no_step (n := 17) oP7 (by decide) (by decide)
def RP9 : Nat → Nat → Option Nat := aU RP8 16 2 (some 18)
theorem wP9 : ∀ a b r, RP9 a b = some r → r < 19 := wf_step (n := 19) wP8 (by decide) (by decide)
theorem oP9 : ∀ a b, 17 ≤ a → RP9 a b = none := no_step (n := 17) oP8 (by decide) (by decide)
def RP10 : Nat → Nat → Option Nat := aU RP9 16 3 (some 19)
theorem wP10 : ∀ a b r, RP10 a b = some r → r < 20 := wf_step (n := 20) wP9 (by decide) (by decide)
theorem oP10 : ∀ a b, 17 ≤ a → RP10 a b = none := no_step (n := 17) oP9 (by decide) (by decide)
def RP11 : Nat → Nat → Option Nat := aU RP10 16 4 (some 20)
theorem wP11 : ∀ a b r, RP11 a b = some r → r < 21 := wf_step (n := 21) wP10 (by decide) (by decide)
theorem oP11 : ∀ a b, 17 ≤ a → RP11 a b = none := no_step (n := 17) oP10 (by decide) (by decide)
def RP12 : Nat → Nat → Option Nat := aU RP11 16 6 (some 21)
theorem wP12 : ∀ a b r, RP12 a b = some r → r < 22 := wf_step (n := 22) wP11 (by decide) (by decide)
theorem oP12 : ∀ a b, 17 ≤ a → RP12 a b = none := no_step (n := 17) oP11 (by decide) (by decide)
def RP13 : Nat → Nat → Option Nat := aU RP12 16 7 (some 22)
theorem wP13 : ∀ a b r, RP13 a b = some r → r < 23 := wf_step (n := 23) wP12 (by decide) (by decide)
theorem oP13 : ∀ a b, 17 ≤ a → RP13 a b = none := no_step (n := 17) oP12 (by decide) (by decide)
def RP14 : Nat → Nat → Option Nat := aU RP13 16 8 (some 23)
theorem wP14 : ∀ a b r, RP14 a b = some r → r < 24 := wf_step (n := 24) wP13 (by decide) (by decide)
theorem oP14 : ∀ a b, 17 ≤ a → RP14 a b = none := no_step (n := 17) oP13 (by decide) (by decide)
def RP15 : Nat → Nat → Option Nat := aU RP14 16 9 (some 24)
theorem wP15 : ∀ a b r, RP15 a b = some r → r < 25 := wf_step (n := 25) wP14 (by decide) (by decide)
theorem oP15 : ∀ a b, 17 ≤ a → RP15 a b = none := no_step (n := 17) oP14 (by decide) (by decide)
def RP16 : Nat → Nat → Option Nat := aU RP15 16 10 (some 25)
theorem wP16 : ∀ a b r, RP16 a b = some r → r < 26 := wf_step (n := 26) wP15 (by decide) (by decide)
theorem oP16 : ∀ a b, 17 ≤ a → RP16 a b = none := no_step (n := 17) oP15 (by decide) (by decide)
def RP17 : Nat → Nat → Option Nat := aU RP16 16 12 (some 26)
theorem wP17 : ∀ a b r, RP17 a b = some r → r < 27 := wf_step (n := 27) wP16 (by decide) (by decide)
theorem oP17 : ∀ a b, 17 ≤ a → RP17 a b = none := no_step (n := 17) oP16 (by decide) (by decide)
def RP18 : Nat → Nat → Option Nat := aU RP17 16 14 (some 27)
theorem wP18 : ∀ a b r, RP18 a b = some r → r < 28 := wf_step (n := 28) wP17 (by decide) (by decide)
theorem oP18 : ∀ a b, 17 ≤ a → RP18 a b = none := no_step (n := 17) oP17 (by decide) (by decide)
def RP19 : Nat → Nat → Option Nat := aU RP18 8 2 (some 16)
theorem wP19 : ∀ a b r, RP19 a b = some r → r < 28 := wf_step (n := 28) wP18 (by decide) (by decide)
theorem oP19 : ∀ a b, 17 ≤ a → RP19 a b = none := no_step (n := 17) oP18 (by decide) (by decide)
def RP20 : Nat → Nat → Option Nat := aU RP19 29 0 (some 30)
theorem wP20 : ∀ a b r, RP20 a b = some r → r < 31 := wf_step (n := 31) wP19 (by decide) (by decide)
theorem oP20 : ∀ a b, 30 ≤ a → RP20 a b = none := no_step (n := 30) oP19 (by decide) (by decide)
def RP21 : Nat → Nat → Option Nat := aU RP20 28 0 (some 29)
theorem wP21 : ∀ a b r, RP21 a b = some r → r < 31 := wf_step (n := 31) wP20 (by decide) (by decide)
theorem oP21 : ∀ a b, 30 ≤ a → RP21 a b = none := no_step (n := 30) oP20 (by decide) (by decide)
def RP22 : Nat → Nat → Option Nat := aU RP21 31 0 (some 32)
theorem wP22 : ∀ a b r, RP22 a b = some r → r < 33 := wf_step (n := 33) wP21 (by decide) (by decide)
theorem oP22 : ∀ a b, 32 ≤ a → RP22 a b = none := no_step (n := 32) oP21 (by decide) (by decide)
def RP23 : Nat → Nat → Option Nat := aU RP22 28 1 (some 31)
theorem wP23 : ∀ a b r, RP23 a b = some r → r < 33 := wf_step (n := 33) wP22 (by decide) (by decide)
theorem oP23 : ∀ a b, 32 ≤ a → RP23 a b = none := no_step (n := 32) oP22 (by decide) (by decide)
def RP24 : Nat → Nat → Option Nat := aU RP23 33 0 (some 34)
theorem wP24 : ∀ a b r, RP24 a b = some r → r < 35 := wf_step (n := 35) wP23 (by decide) (by decide)
theorem oP24 : ∀ a b, 34 ≤ a → RP24 a b = none := no_step (n := 34) oP23 (by decide) (by decide)
def RP25 : Nat → Nat → Option Nat := aU RP24 28 2 (some 33)
theorem wP25 : ∀ a b r, RP25 a b = some r → r < 35 := wf_step (n := 35) wP24 (by decide) (by decide)
theorem oP25 : ∀ a b, 34 ≤ a → RP25 a b = none := no_step (n := 34) oP24 (by decide) (by decide)
def RP26 : Nat → Nat → Option Nat := aU RP25 35 0 (some 36)
theorem wP26 : ∀ a b r, RP26 a b = some r → r < 37 := wf_step (n := 37) wP25 (by decide) (by decide)
theorem oP26 : ∀ a b, 36 ≤ a → RP26 a b = none := no_step (n := 36) oP25 (by decide) (by decide)
def RP27 : Nat → Nat → Option Nat := aU RP26 28 3 (some 35)
theorem wP27 : ∀ a b r, RP27 a b = some r → r < 37 := wf_step (n := 37) wP26 (by decide) (by decide)
theorem oP27 : ∀ a b, 36 ≤ a → RP27 a b = none := no_step (n := 36) oP26 (by decide) (by decide)
def RP28 : Nat → Nat → Option Nat := aU RP27 8 8 (some 28)
theorem wP28 : ∀ a b r, RP28 a b = some r → r < 37 := wf_step (n := 37) wP27 (by decide) (by decide)
theorem oP28 : ∀ a b, 36 ≤ a → RP28 a b = none := no_step (n := 36) oP27 (by decide) (by decide)
def RP29 : Nat → Nat → Option Nat := aU RP28 37 0 (some 38)
theorem wP29 : ∀ a b r, RP29 a b = some r → r < 39 := wf_step (n := 39) wP28 (by decide) (by decide)
theorem oP29 : ∀ a b, 38 ≤ a → RP29 a b = none := no_step (n := 38) oP28 (by decide) (by decide)
def RP30 : Nat → Nat → Option Nat := aU RP29 8 9 (some 37)
theorem wP30 : ∀ a b r, RP30 a b = some r → r < 39 := wf_step (n := 39) wP29 (by decide) (by decide)
theorem oP30 : ∀ a b, 38 ≤ a → RP30 a b = none := no_step (n := 38) oP29 (by decide) (by decide)
def RP31 : Nat → Nat → Option Nat := aU RP30 39 2 (some 40)
theorem wP31 : ∀ a b r, RP31 a b = some r → r < 41 := wf_step (n := 41) wP30 (by decide) (by decide)
theorem oP31 : ∀ a b, 40 ≤ a → RP31 a b = none := no_step (n := 40) oP30 (by decide) (by decide)
def RP32 : Nat → Nat → Option Nat := aU RP31 39 0 (some 16)
theorem wP32 : ∀ a b r, RP32 a b = some r → r < 41 := wf_step (n := 41) wP31 (by decide) (by decide)
theorem oP32 : ∀ a b, 40 ≤ a → RP32 a b = none := no_step (n := 40) oP31 (by decide) (by decide)
def RP33 : Nat → Nat → Option Nat := aU RP32 39 1 (some 10)
theorem wP33 : ∀ a b r, RP33 a b = some r → r < 41 := wf_step (n := 41) wP32 (by decide) (by decide)
theorem oP33 : ∀ a b, 40 ≤ a → RP33 a b = none := no_step (n := 40) oP32 (by decide) (by decide)
def RP34 : Nat → Nat → Option Nat := aU RP33 8 3 (some 39)
theorem wP34 : ∀ a b r, RP34 a b = some r → r < 41 := wf_step (n := 41) wP33 (by decide) (by decide)
theorem oP34 : ∀ a b, 40 ≤ a → RP34 a b = none := no_step (n := 40) oP33 (by decide) (by decide)
def RP35 : Nat → Nat → Option Nat := aU RP34 41 3 (some 42)
theorem wP35 : ∀ a b r, RP35 a b = some r → r < 43 := wf_step (n := 43) wP34 (by decide) (by decide)
theorem oP35 : ∀ a b, 42 ≤ a → RP35 a b = none := no_step (n := 42) oP34 (by decide) (by decide)
def RP36 : Nat → Nat → Option Nat := aU RP35 41 4 (some 43)
theorem wP36 : ∀ a b r, RP36 a b = some r → r < 44 := wf_step (n := 44) wP35 (by decide) (by decide)
theorem oP36 : ∀ a b, 42 ≤ a → RP36 a b = none := no_step (n := 42) oP35 (by decide) (by decide)
def RP37 : Nat → Nat → Option Nat := aU RP36 41 5 (some 44)
theorem wP37 : ∀ a b r, RP37 a b = some r → r < 45 := wf_step (n := 45) wP36 (by decide) (by decide)
theorem oP37 : ∀ a b, 42 ≤ a → RP37 a b = none := no_step (n := 42) oP36 (by decide) (by decide)
def RP38 : Nat → Nat → Option Nat := aU RP37 41 6 (some 45)
theorem wP38 : ∀ a b r, RP38 a b = some r → r < 46 := wf_step (n := 46) wP37 (by decide) (by decide)
theorem oP38 : ∀ a b, 42 ≤ a → RP38 a b = none := no_step (n := 42) oP37 (by decide) (by decide)
def RP39 : Nat → Nat → Option Nat := aU RP38 41 7 (some 46)
theorem wP39 : ∀ a b r, RP39 a b = some r → r < 47 := wf_step (n := 47) wP38 (by decide) (by decide)
theorem oP39 : ∀ a b, 42 ≤ a → RP39 a b = none := no_step (n := 42) oP38 (by decide) (by decide)
def RP40 : Nat → Nat → Option Nat := aU RP39 41 8 (some 47)
theorem wP40 : ∀ a b r, RP40 a b = some r → r < 48 := wf_step (n := 48) wP39 (by decide) (by decide)
theorem oP40 : ∀ a b, 42 ≤ a → RP40 a b = none := no_step (n := 42) oP39 (by decide) (by decide)
def RP41 : Nat → Nat → Option Nat := aU RP40 41 9 (some 48)
theorem wP41 : ∀ a b r, RP41 a b = some r → r < 49 := wf_step (n := 49) wP40 (by decide) (by decide)
theorem oP41 : ∀ a b, 42 ≤ a → RP41 a b = none := no_step (n := 42) oP40 (by decide) (by decide)
def RP42 : Nat → Nat → Option Nat := aU RP41 41 0 (some 16)
theorem wP42 : ∀ a b r, RP42 a b = some r → r < 49 := wf_step (n := 49) wP41 (by decide) (by decide)
theorem oP42 : ∀ a b, 42 ≤ a → RP42 a b = none := no_step (n := 42) oP41 (by decide) (by decide)
def RP43 : Nat → Nat → Option Nat := aU RP42 41 1 (some 39)
theorem wP43 : ∀ a b r, RP43 a b = some r → r < 49 := wf_step (n := 49) wP42 (by decide) (by decide)
theorem oP43 : ∀ a b, 42 ≤ a → RP43 a b = none := no_step (n := 42) oP42 (by decide) (by decide)
def RP44 : Nat → Nat → Option Nat := aU RP43 41 2 (some 9)
theorem wP44 : ∀ a b r, RP44 a b = some r → r < 49 := wf_step (n := 49) wP43 (by decide) (by decide)
theorem oP44 : ∀ a b, 42 ≤ a → RP44 a b = none := no_step (n := 42) oP43 (by decide) (by decide)
def RP45 : Nat → Nat → Option Nat := aU RP44 8 4 (some 41)
theorem wP45 : ∀ a b r, RP45 a b = some r → r < 49 := wf_step (n := 49) wP44 (by decide) (by decide)
theorem oP45 : ∀ a b, 42 ≤ a → RP45 a b = none := no_step (n := 42) oP44 (by decide) (by decide)
def RP46 : Nat → Nat → Option Nat := aU RP45 49 4 (some 50)
theorem wP46 : ∀ a b r, RP46 a b = some r → r < 51 := wf_step (n := 51) wP45 (by decide) (by decide)
theorem oP46 : ∀ a b, 50 ≤ a → RP46 a b = none := no_step (n := 50) oP45 (by decide) (by decide)
def RP47 : Nat → Nat → Option Nat := aU RP46 49 5 (some 51)
theorem wP47 : ∀ a b r, RP47 a b = some r → r < 52 := wf_step (n := 52) wP46 (by decide) (by decide)
theorem oP47 : ∀ a b, 50 ≤ a → RP47 a b = none := no_step (n := 50) oP46 (by decide) (by decide)
def RP48 : Nat → Nat → Option Nat := aU RP47 49 6 (some 52)
theorem wP48 : ∀ a b r, RP48 a b = some r → r < 53 := wf_step (n := 53) wP47 (by decide) (by decide)
theorem oP48 : ∀ a b, 50 ≤ a → RP48 a b = none := no_step (n := 50) oP47 (by decide) (by decide)
def RP49 : Nat → Nat → Option Nat := aU RP48 49 0 (some 16)
theorem wP49 : ∀ a b r, RP49 a b = some r → r < 53 := wf_step (n := 53) wP48 (by decide) (by decide)
theorem oP49 : ∀ a b, 50 ≤ a → RP49 a b = none := no_step (n := 50) oP48 (by decide) (by decide)
def RP50 : Nat → Nat → Option Nat := aU RP49 49 1 (some 10)
theorem wP50 : ∀ a b r, RP50 a b = some r → r < 53 := wf_step (n := 53) wP49 (by decide) (by decide)
theorem oP50 : ∀ a b, 50 ≤ a → RP50 a b = none := no_step (n := 50) oP49 (by decide) (by decide)
def RP51 : Nat → Nat → Option Nat := aU RP50 49 2 (some 39)
theorem wP51 : ∀ a b r, RP51 a b = some r → r < 53 := wf_step (n := 53) wP50 (by decide) (by decide)
theorem oP51 : ∀ a b, 50 ≤ a → RP51 a b = none := no_step (n := 50) oP50 (by decide) (by decide)
def RP52 : Nat → Nat → Option Nat := aU RP51 49 3 (some 41)
theorem wP52 : ∀ a b r, RP52 a b = some r → r < 53 := wf_step (n := 53) wP51 (by decide) (by decide)
theorem oP52 : ∀ a b, 50 ≤ a → RP52 a b = none := no_step (n := 50) oP51 (by decide) (by decide)
def RP53 : Nat → Nat → Option Nat := aU RP52 8 5 (some 49)
theorem wP53 : ∀ a b r, RP53 a b = some r → r < 53 := wf_step (n := 53) wP52 (by decide) (by decide)
theorem oP53 : ∀ a b, 50 ≤ a → RP53 a b = none := no_step (n := 50) oP52 (by decide) (by decide)
def RP54 : Nat → Nat → Option Nat := mulR RP53 54 20
theorem wP54 : ∀ a b r, RP54 a b = some r → r < 75 := wf_mul (n := 75) wP53 (by decide) (by decide)
theorem oP54 : ∀ a b, 55 ≤ a → RP54 a b = none := no_mul (n := 55) oP53 (by decide) (by decide)
def RP55 : Nat → Nat → Option Nat := aU RP54 53 7 (some 54)
theorem wP55 : ∀ a b r, RP55 a b = some r → r < 75 := wf_step (n := 75) wP54 (by decide) (by decide)
theorem oP55 : ∀ a b, 55 ≤ a → RP55 a b = none := no_step (n := 55) oP54 (by decide) (by decide)
def RP56 : Nat → Nat → Option Nat := aU RP55 53 8 (some 75)
theorem wP56 : ∀ a b r, RP56 a b = some r → r < 76 := wf_step (n := 76) wP55 (by decide) (by decide)
theorem oP56 : ∀ a b, 55 ≤ a → RP56 a b = none := no_step (n := 55) oP55 (by decide) (by decide)
def RP57 : Nat → Nat → Option Nat := aU RP56 53 9 (some 76)
theorem wP57 : ∀ a b r, RP57 a b = some r → r < 77 := wf_step (n := 77) wP56 (by decide) (by decide)
theorem oP57 : ∀ a b, 55 ≤ a → RP57 a b = none := no_step (n := 55) oP56 (by decide) (by decide)
def RP58 : Nat → Nat → Option Nat := aU RP57 53 0 (some 16)
theorem wP58 : ∀ a b r, RP58 a b = some r → r < 77 := wf_step (n := 77) wP57 (by decide) (by decide)
theorem oP58 : ∀ a b, 55 ≤ a → RP58 a b = none := no_step (n := 55) oP57 (by decide) (by decide)
def RP59 : Nat → Nat → Option Nat := aU RP58 53 1 (some 39)
theorem wP59 : ∀ a b r, RP59 a b = some r → r < 77 := wf_step (n := 77) wP58 (by decide) (by decide)
theorem oP59 : ∀ a b, 55 ≤ a → RP59 a b = none := no_step (n := 55) oP58 (by decide) (by decide)
def RP60 : Nat → Nat → Option Nat := aU RP59 53 2 (some 41)
theorem wP60 : ∀ a b r, RP60 a b = some r → r < 77 := wf_step (n := 77) wP59 (by decide) (by decide)
theorem oP60 : ∀ a b, 55 ≤ a → RP60 a b = none := no_step (n := 55) oP59 (by decide) (by decide)
def RP61 : Nat → Nat → Option Nat := aU RP60 53 3 (some 9)
theorem wP61 : ∀ a b r, RP61 a b = some r → r < 77 := wf_step (n := 77) wP60 (by decide) (by decide)
theorem oP61 : ∀ a b, 55 ≤ a → RP61 a b = none := no_step (n := 55) oP60 (by decide) (by decide)
def RP62 : Nat → Nat → Option Nat := aU RP61 8 6 (some 53)
theorem wP62 : ∀ a b r, RP62 a b = some r → r < 77 := wf_step (n := 77) wP61 (by decide) (by decide)
theorem oP62 : ∀ a b, 55 ≤ a → RP62 a b = none := no_step (n := 55) oP61 (by decide) (by decide)
def RP63 : Nat → Nat → Option Nat := aU RP62 77 1 (some 78)
theorem wP63 : ∀ a b r, RP63 a b = some r → r < 79 := wf_step (n := 79) wP62 (by decide) (by decide)
theorem oP63 : ∀ a b, 78 ≤ a → RP63 a b = none := no_step (n := 78) oP62 (by decide) (by decide)
def RP64 : Nat → Nat → Option Nat := mulR RP63 79 20
theorem wP64 : ∀ a b r, RP64 a b = some r → r < 100 := wf_mul (n := 100) wP63 (by decide) (by decide)
theorem oP64 : ∀ a b, 80 ≤ a → RP64 a b = none := no_mul (n := 80) oP63 (by decide) (by decide)
def RP65 : Nat → Nat → Option Nat := aU RP64 77 2 (some 79)
theorem wP65 : ∀ a b r, RP65 a b = some r → r < 100 := wf_step (n := 100) wP64 (by decide) (by decide)
theorem oP65 : ∀ a b, 80 ≤ a → RP65 a b = none := no_step (n := 80) oP64 (by decide) (by decide)
def RP66 : Nat → Nat → Option Nat := mulR RP65 100 11
theorem wP66 : ∀ a b r, RP66 a b = some r → r < 112 := wf_mul (n := 112) wP65 (by decide) (by decide)
theorem oP66 : ∀ a b, 101 ≤ a → RP66 a b = none := no_mul (n := 101) oP65 (by decide) (by decide)
def RP67 : Nat → Nat → Option Nat := aU RP66 77 3 (some 100)
theorem wP67 : ∀ a b r, RP67 a b = some r → r < 112 := wf_step (n := 112) wP66 (by decide) (by decide)
theorem oP67 : ∀ a b, 101 ≤ a → RP67 a b = none := no_step (n := 101) oP66 (by decide) (by decide)
def RP68 : Nat → Nat → Option Nat := aU RP67 77 4 (some 112)
theorem wP68 : ∀ a b r, RP68 a b = some r → r < 113 := wf_step (n := 113) wP67 (by decide) (by decide)
theorem oP68 : ∀ a b, 101 ≤ a → RP68 a b = none := no_step (n := 101) oP67 (by decide) (by decide)
def RP69 : Nat → Nat → Option Nat := aU RP68 77 5 (some 113)
theorem wP69 : ∀ a b r, RP69 a b = some r → r < 114 := wf_step (n := 114) wP68 (by decide) (by decide)
theorem oP69 : ∀ a b, 101 ≤ a → RP69 a b = none := no_step (n := 101) oP68 (by decide) (by decide)
def RP70 : Nat → Nat → Option Nat := aU RP69 77 6 (some 114)
theorem wP70 : ∀ a b r, RP70 a b = some r → r < 115 := wf_step (n := 115) wP69 (by decide) (by decide)
theorem oP70 : ∀ a b, 101 ≤ a → RP70 a b = none := no_step (n := 101) oP69 (by decide) (by decide)
def RP71 : Nat → Nat → Option Nat := aU RP70 77 0 (some 53)
theorem wP71 : ∀ a b r, RP71 a b = some r → r < 115 := wf_step (n := 115) wP70 (by decide) (by decide)
theorem oP71 : ∀ a b, 101 ≤ a → RP71 a b = none := no_step (n := 101) oP70 (by decide) (by decide)
def RP72 : Nat → Nat → Option Nat := aU RP71 115 0 (some 116)
theorem wP72 : ∀ a b r, RP72 a b = some r → r < 117 := wf_step (n := 117) wP71 (by decide) (by decide)
theorem oP72 : ∀ a b, 116 ≤ a → RP72 a b = none := no_step (n := 116) oP71 (by decide) (by decide)
def RP73 : Nat → Nat → Option Nat := aU RP72 78 0 (some 115)
theorem wP73 : ∀ a b r, RP73 a b = some r → r < 117 := wf_step (n := 117) wP72 (by decide) (by decide)
theorem oP73 : ∀ a b, 116 ≤ a → RP73 a b = none := no_step (n := 116) oP72 (by decide) (by decide)
def RP74 : Nat → Nat → Option Nat := aU RP73 117 0 (some 118)
theorem wP74 : ∀ a b r, RP74 a b = some r → r < 119 := wf_step (n := 119) wP73 (by decide) (by decide)
theorem oP74 : ∀ a b, 118 ≤ a → RP74 a b = none := no_step (n := 118) oP73 (by decide) (by decide)
def RP75 : Nat → Nat → Option Nat := aU RP74 78 1 (some 117)
theorem wP75 : ∀ a b r, RP75 a b = some r → r < 119 := wf_step (n := 119) wP74 (by decide) (by decide)
theorem oP75 : ∀ a b, 118 ≤ a → RP75 a b = none := no_step (n := 118) oP74 (by decide) (by decide)
def RP76 : Nat → Nat → Option Nat := aU RP75 119 0 (some 120)
theorem wP76 : ∀ a b r, RP76 a b = some r → r < 121 := wf_step (n := 121) wP75 (by decide) (by decide)
theorem oP76 : ∀ a b, 120 ≤ a → RP76 a b = none := no_step (n := 120) oP75 (by decide) (by decide)
def RP77 : Nat → Nat → Option Nat := aU RP76 78 2 (some 119)
theorem wP77 : ∀ a b r, RP77 a b = some r → r < 121 := wf_step (n := 121) wP76 (by decide) (by decide)
theorem oP77 : ∀ a b, 120 ≤ a → RP77 a b = none := no_step (n := 120) oP76 (by decide) (by decide)
def RP78 : Nat → Nat → Option Nat := aU RP77 121 0 (some 122)
theorem wP78 : ∀ a b r, RP78 a b = some r → r < 123 := wf_step (n := 123) wP77 (by decide) (by decide)
theorem oP78 : ∀ a b, 122 ≤ a → RP78 a b = none := no_step (n := 122) oP77 (by decide) (by decide)
def RP79 : Nat → Nat → Option Nat := aU RP78 78 3 (some 121)
theorem wP79 : ∀ a b r, RP79 a b = some r → r < 123 := wf_step (n := 123) wP78 (by decide) (by decide)
theorem oP79 : ∀ a b, 122 ≤ a → RP79 a b = none := no_step (n := 122) oP78 (by decide) (by decide)
def RP80 : Nat → Nat → Option Nat := aU RP79 123 0 (some 124)
theorem wP80 : ∀ a b r, RP80 a b = some r → r < 125 := wf_step (n := 125) wP79 (by decide) (by decide)
theorem oP80 : ∀ a b, 124 ≤ a → RP80 a b = none := no_step (n := 124) oP79 (by decide) (by decide)
def RP81 : Nat → Nat → Option Nat := aU RP80 78 4 (some 123)
theorem wP81 : ∀ a b r, RP81 a b = some r → r < 125 := wf_step (n := 125) wP80 (by decide) (by decide)
theorem oP81 : ∀ a b, 124 ≤ a → RP81 a b = none := no_step (n := 124) oP80 (by decide) (by decide)
def RP82 : Nat → Nat → Option Nat := aU RP81 125 0 (some 126)
theorem wP82 : ∀ a b r, RP82 a b = some r → r < 127 := wf_step (n := 127) wP81 (by decide) (by decide)
theorem oP82 : ∀ a b, 126 ≤ a → RP82 a b = none := no_step (n := 126) oP81 (by decide) (by decide)
def RP83 : Nat → Nat → Option Nat := aU RP82 78 5 (some 125)
theorem wP83 : ∀ a b r, RP83 a b = some r → r < 127 := wf_step (n := 127) wP82 (by decide) (by decide)
theorem oP83 : ∀ a b, 126 ≤ a → RP83 a b = none := no_step (n := 126) oP82 (by decide) (by decide)
def RP84 : Nat → Nat → Option Nat := aU RP83 127 0 (some 128)
theorem wP84 : ∀ a b r, RP84 a b = some r → r < 129 := wf_step (n := 129) wP83 (by decide) (by decide)
theorem oP84 : ∀ a b, 128 ≤ a → RP84 a b = none := no_step (n := 128) oP83 (by decide) (by decide)
def RP85 : Nat → Nat → Option Nat := aU RP84 78 6 (some 127)
theorem wP85 : ∀ a b r, RP85 a b = some r → r < 129 := wf_step (n := 129) wP84 (by decide) (by decide)
theorem oP85 : ∀ a b, 128 ≤ a → RP85 a b = none := no_step (n := 128) oP84 (by decide) (by decide)
def RP86 : Nat → Nat → Option Nat := aU RP85 129 0 (some 130)
theorem wP86 : ∀ a b r, RP86 a b = some r → r < 131 := wf_step (n := 131) wP85 (by decide) (by decide)
theorem oP86 : ∀ a b, 130 ≤ a → RP86 a b = none := no_step (n := 130) oP85 (by decide) (by decide)
def RP87 : Nat → Nat → Option Nat := aU RP86 78 7 (some 129)
theorem wP87 : ∀ a b r, RP87 a b = some r → r < 131 := wf_step (n := 131) wP86 (by decide) (by decide)
theorem oP87 : ∀ a b, 130 ≤ a → RP87 a b = none := no_step (n := 130) oP86 (by decide) (by decide)
def RP88 : Nat → Nat → Option Nat := aU RP87 131 0 (some 132)
theorem wP88 : ∀ a b r, RP88 a b = some r → r < 133 := wf_step (n := 133) wP87 (by decide) (by decide)
theorem oP88 : ∀ a b, 132 ≤ a → RP88 a b = none := no_step (n := 132) oP87 (by decide) (by decide)
def RP89 : Nat → Nat → Option Nat := aU RP88 78 8 (some 131)
theorem wP89 : ∀ a b r, RP89 a b = some r → r < 133 := wf_step (n := 133) wP88 (by decide) (by decide)
theorem oP89 : ∀ a b, 132 ≤ a → RP89 a b = none := no_step (n := 132) oP88 (by decide) (by decide)
def RP90 : Nat → Nat → Option Nat := aU RP89 133 0 (some 134)
theorem wP90 : ∀ a b r, RP90 a b = some r → r < 135 := wf_step (n := 135) wP89 (by decide) (by decide)
theorem oP90 : ∀ a b, 134 ≤ a → RP90 a b = none := no_step (n := 134) oP89 (by decide) (by decide)
def RP91 : Nat → Nat → Option Nat := aU RP90 78 9 (some 133)
theorem wP91 : ∀ a b r, RP91 a b = some r → r < 135 := wf_step (n := 135) wP90 (by decide) (by decide)
theorem oP91 : ∀ a b, 134 ≤ a → RP91 a b = none := no_step (n := 134) oP90 (by decide) (by decide)
def RP92 : Nat → Nat → Option Nat := aU RP91 135 0 (some 136)
theorem wP92 : ∀ a b r, RP92 a b = some r → r < 137 := wf_step (n := 137) wP91 (by decide) (by decide)
theorem oP92 : ∀ a b, 136 ≤ a → RP92 a b = none := no_step (n := 136) oP91 (by decide) (by decide)
def RP93 : Nat → Nat → Option Nat := aU RP92 78 10 (some 135)
theorem wP93 : ∀ a b r, RP93 a b = some r → r < 137 := wf_step (n := 137) wP92 (by decide) (by decide)
theorem oP93 : ∀ a b, 136 ≤ a → RP93 a b = none := no_step (n := 136) oP92 (by decide) (by decide)
def RP94 : Nat → Nat → Option Nat := aU RP93 137 0 (some 138)
theorem wP94 : ∀ a b r, RP94 a b = some r → r < 139 := wf_step (n := 139) wP93 (by decide) (by decide)
theorem oP94 : ∀ a b, 138 ≤ a → RP94 a b = none := no_step (n := 138) oP93 (by decide) (by decide)
def RP95 : Nat → Nat → Option Nat := aU RP94 78 11 (some 137)
theorem wP95 : ∀ a b r, RP95 a b = some r → r < 139 := wf_step (n := 139) wP94 (by decide) (by decide)
theorem oP95 : ∀ a b, 138 ≤ a → RP95 a b = none := no_step (n := 138) oP94 (by decide) (by decide)
def RP96 : Nat → Nat → Option Nat := aU RP95 139 0 (some 140)
theorem wP96 : ∀ a b r, RP96 a b = some r → r < 141 := wf_step (n := 141) wP95 (by decide) (by decide)
theorem oP96 : ∀ a b, 140 ≤ a → RP96 a b = none := no_step (n := 140) oP95 (by decide) (by decide)
def RP97 : Nat → Nat → Option Nat := aU RP96 78 12 (some 139)
theorem wP97 : ∀ a b r, RP97 a b = some r → r < 141 := wf_step (n := 141) wP96 (by decide) (by decide)
theorem oP97 : ∀ a b, 140 ≤ a → RP97 a b = none := no_step (n := 140) oP96 (by decide) (by decide)
def RP98 : Nat → Nat → Option Nat := aU RP97 141 0 (some 142)
theorem wP98 : ∀ a b r, RP98 a b = some r → r < 143 := wf_step (n := 143) wP97 (by decide) (by decide)
theorem oP98 : ∀ a b, 142 ≤ a → RP98 a b = none := no_step (n := 142) oP97 (by decide) (by decide)
def RP99 : Nat → Nat → Option Nat := aU RP98 78 13 (some 141)
theorem wP99 : ∀ a b r, RP99 a b = some r → r < 143 := wf_step (n := 143) wP98 (by decide) (by decide)
theorem oP99 : ∀ a b, 142 ≤ a → RP99 a b = none := no_step (n := 142) oP98 (by decide) (by decide)
def RP100 : Nat → Nat → Option Nat := aU RP99 143 0 (some 144)
theorem wP100 : ∀ a b r, RP100 a b = some r → r < 145 := wf_step (n := 145) wP99 (by decide) (by decide)
theorem oP100 : ∀ a b, 144 ≤ a → RP100 a b = none := no_step (n := 144) oP99 (by decide) (by decide)
def RP101 : Nat → Nat → Option Nat := aU RP100 78 14 (some 143)
theorem wP101 : ∀ a b r, RP101 a b = some r → r < 145 := wf_step (n := 145) wP100 (by decide) (by decide)
theorem oP101 : ∀ a b, 144 ≤ a → RP101 a b = none := no_step (n := 144) oP100 (by decide) (by decide)
def RP102 : Nat → Nat → Option Nat := aU RP101 145 0 (some 146)
theorem wP102 : ∀ a b r, RP102 a b = some r → r < 147 := wf_step (n := 147) wP101 (by decide) (by decide)
theorem oP102 : ∀ a b, 146 ≤ a → RP102 a b = none := no_step (n := 146) oP101 (by decide) (by decide)
def RP103 : Nat → Nat → Option Nat := aU RP102 78 15 (some 145)
theorem wP103 : ∀ a b r, RP103 a b = some r → r < 147 := wf_step (n := 147) wP102 (by decide) (by decide)
theorem oP103 : ∀ a b, 146 ≤ a → RP103 a b = none := no_step (n := 146) oP102 (by decide) (by decide)
def RP104 : Nat → Nat → Option Nat := aU RP103 147 0 (some 148)
theorem wP104 : ∀ a b r, RP104 a b = some r → r < 149 := wf_step (n := 149) wP103 (by decide) (by decide)
theorem oP104 : ∀ a b, 148 ≤ a → RP104 a b = none := no_step (n := 148) oP103 (by decide) (by decide)
def RP105 : Nat → Nat → Option Nat := aU RP104 78 16 (some 147)
theorem wP105 : ∀ a b r, RP105 a b = some r → r < 149 := wf_step (n := 149) wP104 (by decide) (by decide)
theorem oP105 : ∀ a b, 148 ≤ a → RP105 a b = none := no_step (n := 148) oP104 (by decide) (by decide)
def RP106 : Nat → Nat → Option Nat := aU RP105 149 0 (some 150)
theorem wP106 : ∀ a b r, RP106 a b = some r → r < 151 := wf_step (n := 151) wP105 (by decide) (by decide)
theorem oP106 : ∀ a b, 150 ≤ a → RP106 a b = none := no_step (n := 150) oP105 (by decide) (by decide)
def RP107 : Nat → Nat → Option Nat := aU RP106 78 17 (some 149)
theorem wP107 : ∀ a b r, RP107 a b = some r → r < 151 := wf_step (n := 151) wP106 (by decide) (by decide)
theorem oP107 : ∀ a b, 150 ≤ a → RP107 a b = none := no_step (n := 150) oP106 (by decide) (by decide)
def RP108 : Nat → Nat → Option Nat := aU RP107 151 0 (some 152)
theorem wP108 : ∀ a b r, RP108 a b = some r → r < 153 := wf_step (n := 153) wP107 (by decide) (by decide)
theorem oP108 : ∀ a b, 152 ≤ a → RP108 a b = none := no_step (n := 152) oP107 (by decide) (by decide)
def RP109 : Nat → Nat → Option Nat := aU RP108 78 18 (some 151)
theorem wP109 : ∀ a b r, RP109 a b = some r → r < 153 := wf_step (n := 153) wP108 (by decide) (by decide)
theorem oP109 : ∀ a b, 152 ≤ a → RP109 a b = none := no_step (n := 152) oP108 (by decide) (by decide)
def RP110 : Nat → Nat → Option Nat := aU RP109 153 0 (some 154)
theorem wP110 : ∀ a b r, RP110 a b = some r → r < 155 := wf_step (n := 155) wP109 (by decide) (by decide)
theorem oP110 : ∀ a b, 154 ≤ a → RP110 a b = none := no_step (n := 154) oP109 (by decide) (by decide)
def RP111 : Nat → Nat → Option Nat := aU RP110 78 19 (some 153)
theorem wP111 : ∀ a b r, RP111 a b = some r → r < 155 := wf_step (n := 155) wP110 (by decide) (by decide)
theorem oP111 : ∀ a b, 154 ≤ a → RP111 a b = none := no_step (n := 154) oP110 (by decide) (by decide)
def RP112 : Nat → Nat → Option Nat := aU RP111 155 0 (some 156)
theorem wP112 : ∀ a b r, RP112 a b = some r → r < 157 := wf_step (n := 157) wP111 (by decide) (by decide)
theorem oP112 : ∀ a b, 156 ≤ a → RP112 a b = none := no_step (n := 156) oP111 (by decide) (by decide)
def RP113 : Nat → Nat → Option Nat := aU RP112 78 20 (some 155)
theorem wP113 : ∀ a b r, RP113 a b = some r → r < 157 := wf_step (n := 157) wP112 (by decide) (by decide)
theorem oP113 : ∀ a b, 156 ≤ a → RP113 a b = none := no_step (n := 156) oP112 (by decide) (by decide)
def RP114 : Nat → Nat → Option Nat := aU RP113 157 0 (some 158)
theorem wP114 : ∀ a b r, RP114 a b = some r → r < 159 := wf_step (n := 159) wP113 (by decide) (by decide)
theorem oP114 : ∀ a b, 158 ≤ a → RP114 a b = none := no_step (n := 158) oP113 (by decide) (by decide)
def RP115 : Nat → Nat → Option Nat := aU RP114 78 21 (some 157)
theorem wP115 : ∀ a b r, RP115 a b = some r → r < 159 := wf_step (n := 159) wP114 (by decide) (by decide)
theorem oP115 : ∀ a b, 158 ≤ a → RP115 a b = none := no_step (n := 158) oP114 (by decide) (by decide)
def RP116 : Nat → Nat → Option Nat := aU RP115 8 7 (some 77)
theorem wP116 : ∀ a b r, RP116 a b = some r → r < 159 := wf_step (n := 159) wP115 (by decide) (by decide)
theorem oP116 : ∀ a b, 158 ≤ a → RP116 a b = none := no_step (n := 158) oP115 (by decide) (by decide)
def uN (c : Nat) : Nat := ([1, 16, 9, 6, 5, 4, 45, 3, 8, 5, 9, 15] : List Nat).getD c 1
def dN (c : Nat) : Nat := ([1, 15, 8, 5, 4, 3, 32, 2, 5, 3, 5, 8] : List Nat).getD c 1
def w0 (i : Nat) : Nat := ([100000, 1, 4, 2, 1] : List Nat).getD i 0
def r0 : jR := (fun _ => 1, fun i => uN (i / 3), fun i => dN (i / 3))
theorem u0_val : ∀ c, c < 12 → ([1, 16, 9, 6, 5, 4, 45, 3, 8, 5, 9, 15] : List Int32).getD c 0 = nI (uN c)
  | 0, _ => by decide
  | 1, _ => by decide
  | 2, _ => by decide
  | 3, _ => by decide
  | 4, _ => by decide
  | 5, _ => by decide
  | 6, _ => by decide
  | 7, _ => by decide
  | 8, _ => by decide
  | 9, _ => by decide
  | 10, _ => by decide
  | 11, _ => by decide
  | n + 12, h => absurd h (by omega)
theorem d0_val : ∀ c, c < 12 → ([1, 15, 8, 5, 4, 3, 32, 2, 5, 3, 5, 8] : List Int32).getD c 0 = nI (dN c)
  | 0, _ => by decide
  | 1, _ => by decide
  | 2, _ => by decide
  | 3, _ => by decide
  | 4, _ => by decide
  | 5, _ => by decide
  | 6, _ => by decide
  | 7, _ => by decide
  | 8, _ => by decide
  | 9, _ => by decide
  | 10, _ => by decide
  | 11, _ => by decide
  | n + 12, h => absurd h (by omega)
theorem ud_in : ∀ c, c < 12 → 1 ≤ uN c ∧ uN c ≤ 9999 ∧ 1 ≤ dN c ∧ dN c ≤ 9999
  | 0, _ => by decide
  | 1, _ => by decide
  | 2, _ => by decide
  | 3, _ => by decide
  | 4, _ => by decide
  | 5, _ => by decide
  | 6, _ => by decide
  | 7, _ => by decide
  | 8, _ => by decide
  | 9, _ => by decide
  | 10, _ => by decide
  | 11, _ => by decide
  | n + 12, h => absurd h (by omega)
theorem w0_cpy {f : Nat → Int32} : ∀ i, i < 5 → va_cpy (fun n => ([100000, 1, 4, 2, 1] : List Int32).getD n 0) f (nI 0).toNatClampNeg (nI 0).toNatClampNeg (nI 5).toNatClampNeg i = nI (w0 i)
  | 0, _ => rfl
  | 1, _ => rfl
  | 2, _ => rfl
  | 3, _ => rfl
  | 4, _ => rfl
  | n + 5, h => absurd h (by omega)
theorem t8 {I : Nat → Nat → Int32} {L : Nat → Nat → Int64} : aSh (shP 8, I, L, RP6) 8 = some (10 + 10, 0) := rfl
theorem t9 {I : Nat → Nat → Int32} {L : Nat → Nat → Int64} : aSh (shP 8, I, L, RP6) 9 = some (0, 5) := rfl
theorem t10 {I : Nat → Nat → Int32} {L : Nat → Nat → Int64} : aSh (shP 8, I, L, RP6) 10 = some (10 + 3, 0) := rfl
theorem t11 {I : Nat → Nat → Int32} {L : Nat → Nat → Int64} : aSh (shP 8, I, L, RP6) 11 = some (0, 37) := rfl
theorem t12 {I : Nat → Nat → Int32} {L : Nat → Nat → Int64} : aSh (shP 8, I, L, RP6) 12 = some (0, 37) := rfl
theorem t13 {I : Nat → Nat → Int32} {L : Nat → Nat → Int64} : aSh (shP 8, I, L, RP6) 13 = some (0, 37) := rfl
theorem t14 {I : Nat → Nat → Int32} {L : Nat → Nat → Int64} : aSh (shP 8, I, L, RP6) 14 = some (0, 222) := rfl
theorem t15 {I : Nat → Nat → Int32} {L : Nat → Nat → Int64} : aSh (shP 8, I, L, RP6) 15 = some (0, 12) := rfl
theorem g10_0 {I : Nat → Nat → Int32} {L : Nat → Nat → Int64} : aVal (shP 8, I, L, RP6) (aT 3 0) 10 0 = .ref 11 := rfl
theorem g10_1 {I : Nat → Nat → Int32} {L : Nat → Nat → Int64} : aVal (shP 8, I, L, RP6) (aT 3 1) 10 1 = .ref 12 := rfl
theorem g10_2 {I : Nat → Nat → Int32} {L : Nat → Nat → Int64} : aVal (shP 8, I, L, RP6) (aT 3 2) 10 2 = .ref 13 := rfl
theorem g10_3 {I : Nat → Nat → Int32} {L : Nat → Nat → Int64} : aVal (shP 8, I, L, RP6) (aT 3 3) 10 3 = .ref 14 := rfl
theorem g10_4 {I : Nat → Nat → Int32} {L : Nat → Nat → Int64} : aVal (shP 8, I, L, RP6) (aT 3 4) 10 4 = .ref 15 := rfl
set_option maxHeartbeats 1000000 in
theorem l_storeA {I : Nat → Nat → Int32} {L : Nat → Nat → Int64} {sl u d : Nat} (hsl : sl < 37) (hu2 : u ≤ 9999) (hd2 : d ≤ 9999) : ∀ (k9 p : Nat), p ≤ 6 → 6 - p = k9 → ∀ I1 : Nat → Nat → Int32, stIn I I1 sl u d p → aX mX3_store aE0 (shP 8, I1, L, RP6) 24 [(0, .ref 10), (1, .int (nI sl)), (2, .int (nI u)), (3, .int (nI d)), (4, .int (nI p))] [] 0 0 (fun r h' => r = none ∧ ∃ I', h' = (shP 8, I', L, RP6) ∧ slRep I' sl u d ∧ stKeep I I' sl) := by
  intro k9
  induction k9 using Nat.strongRecOn with
  | _ k9 ih =>
    intro p hp hk I1 hin
    refine aX_iload dX3_store_24 rfl ?_
    refine aX_bipush (v := nI 6) dX3_store_26 (by decide) ?_
    refine nGe (tgt := 92) dX3_store_28 (by decide) (by first | omega | exact Nat.lt_of_le_of_lt (Nat.mod_le _ _) (by omega)) (by first | omega | exact Nat.lt_of_le_of_lt (Nat.mod_le _ _) (by omega)) (fun c1 => ?_) (fun c1 => ?_)
    · exact rV dX3_store_92 rfl (⟨rfl, I1, rfl, stIn_end (by omega) hin, hin.2.2.2.2⟩)
    · have hp := jP_in c1
      refine aX_iload_n dX3_store_31 rfl ?_
      refine aX_gets (i := 2) dX3_store_32 rfl (Or.inr lgX3_49) ?_
      refine aX_iload dX3_store_35 rfl ?_
      refine nEld dX3_store_37 rfl (by first | omega | exact Nat.lt_of_le_of_lt (Nat.mod_le _ _) (by omega)) (by decide) (prim_val (by omega)) ?_
      refine cSp (As := [.int (nI (u)), .int (nI (jP p))]) (st := []) (v := .int (nI (jPw 14 u (jP p)))) dX3_store_38 kX3_store_52 aEok0 rfl rfl (Nat.le_of_ble_eq_true rfl) (c_powerIn (by omega) (by omega) (by omega)) ?_
      refine aX_iload_n dX3_store_41 rfl ?_
      refine aX_gets (i := 2) dX3_store_42 rfl (Or.inr lgX3_49) ?_
      refine aX_iload dX3_store_45 rfl ?_
      refine nEld dX3_store_47 rfl (by first | omega | exact Nat.lt_of_le_of_lt (Nat.mod_le _ _) (by omega)) (by decide) (prim_val (by omega)) ?_
      refine cSp (As := [.int (nI (d)), .int (nI (jP p))]) (st := [.int (nI (jPw 14 u (jP p)))]) (v := .int (nI (jPw 14 d (jP p)))) dX3_store_48 kX3_store_52 aEok0 rfl rfl (Nat.le_of_ble_eq_true rfl) (c_powerIn (by omega) (by omega) (by omega)) ?_
      refine aX_isub dX3_store_51 ?_
      refine aX_istore (lv' := [(0, .ref 10), (1, .int (nI (sl))), (2, .int (nI (u))), (3, .int (nI (d))), (4, .int (nI (p))), (5, .int (jPd u d p))]) dX3_store_52 (by decide) rfl ?_
      refine aX_aload_n dX3_store_54 rfl ?_
      refine aX_get dX3_store_55 lfX3_21 t10 g10_3 ?_
      refine aX_iload_n dX3_store_58 rfl ?_
      refine aX_bipush (v := nI 6) dX3_store_59 (by decide) ?_
      refine nMul dX3_store_61 ?_
      refine aX_iload dX3_store_62 rfl ?_
      refine nAdd dX3_store_64 ?_
      refine aX_iload dX3_store_65 rfl ?_
      refine nIast dX3_store_67 t14 (by first | omega | exact Nat.lt_of_le_of_lt (Nat.mod_le _ _) (by omega)) (by decide) ?_
      refine aX_aload_n dX3_store_68 rfl ?_
      refine aX_get dX3_store_69 lfX3_18 t10 g10_2 ?_
      refine aX_iload_n dX3_store_72 rfl ?_
      refine aX_dup2_11 dX3_store_73 rfl rfl ?_
      refine nIald (v := jSzF u d p) dX3_store_74 t13 (by first | omega | exact Nat.lt_of_le_of_lt (Nat.mod_le _ _) (by omega)) (by decide) ((show (aU I1 14 ((sl * 6) + p) (jPd u d p)) 13 sl = I1 13 sl from congrFun (aU_o (by decide)) _).trans hin.2.2.1) ?_
      refine aX_iload dX3_store_75 rfl ?_
      refine aX_gets (i := 3) dX3_store_77 rfl (Or.inr lgX3_56) ?_
      refine aX_iload dX3_store_80 rfl ?_
      refine nEld dX3_store_82 rfl (by first | omega | exact Nat.lt_of_le_of_lt (Nat.mod_le _ _) (by omega)) (by decide) (rfl) ?_
      refine aX_imul dX3_store_83 ?_
      refine aX_iadd dX3_store_84 ?_
      refine nIast dX3_store_85 t13 (by first | omega | exact Nat.lt_of_le_of_lt (Nat.mod_le _ _) (by omega)) (by decide) ?_
      refine nInc (lv' := [(0, .ref 10), (1, .int (nI (sl))), (2, .int (nI (u))), (3, .int (nI (d))), (4, .int (nI (p + 1))), (5, .int (jPd u d p))]) dX3_store_86 rfl rfl (by decide) rfl ?_
      refine aX_goto (tgt := 24) dX3_store_89 (by decide) ?_
      refine aX_lv (lv' := [(0, .ref 10), (1, .int (nI sl)), (2, .int (nI u)), (3, .int (nI d)), (4, .int (nI (p + 1)))]) [0, 1, 2, 3, 4] rfl ?_
      exact ih (6 - (p + 1)) (by omega) (p + 1) (by omega) rfl _ (stIn_step (by omega) hin)

set_option maxHeartbeats 1000000 in
theorem c_storeA {I : Nat → Nat → Int32} {L : Nat → Nat → Int64} {sl u d : Nat} (hsl : sl < 37) (hu2 : u ≤ 9999) (hd2 : d ≤ 9999) : aM mX3_store [.ref 10, .int (nI sl), .int (nI u), .int (nI d)] (shP 8, I, L, RP6) (fun r h' => r = none ∧ ∃ I', h' = (shP 8, I', L, RP6) ∧ slRep I' sl u d ∧ stKeep I I' sl) := by
  refine aM_of plX3_store (Nat.le_of_ble_eq_true rfl) ?_
  refine aX_aload_n dX3_store_0 rfl ?_
  refine aX_get dX3_store_1 lfX3_9 t10 g10_0 ?_
  refine aX_iload_n dX3_store_4 rfl ?_
  refine aX_iload_n dX3_store_5 rfl ?_
  refine nIast dX3_store_6 t11 (by first | omega | exact Nat.lt_of_le_of_lt (Nat.mod_le _ _) (by omega)) (by decide) ?_
  refine aX_aload_n dX3_store_7 rfl ?_
  refine aX_get dX3_store_8 lfX3_15 t10 g10_1 ?_
  refine aX_iload_n dX3_store_11 rfl ?_
  refine aX_iload_n dX3_store_12 rfl ?_
  refine nIast dX3_store_13 t12 (by first | omega | exact Nat.lt_of_le_of_lt (Nat.mod_le _ _) (by omega)) (by decide) ?_
  refine aX_aload_n dX3_store_14 rfl ?_
  refine aX_get dX3_store_15 lfX3_18 t10 g10_2 ?_
  refine aX_iload_n dX3_store_18 rfl ?_
  refine aX_iconst (v := nI 0) dX3_store_19 (by decide) ?_
  refine nIast dX3_store_20 t13 (by first | omega | exact Nat.lt_of_le_of_lt (Nat.mod_le _ _) (by omega)) (by decide) ?_
  refine aX_iconst (v := nI 0) dX3_store_21 (by decide) ?_
  refine aX_istore (lv' := [(0, .ref 10), (1, .int (nI (sl))), (2, .int (nI (u))), (3, .int (nI (d))), (4, .int (nI (0)))]) dX3_store_22 (by decide) rfl ?_
  exact l_storeA hsl hu2 hd2 _ 0 (by omega) rfl _ ⟨by rw [aU_n (by omega), aU_n (by omega), aU_s], by rw [aU_n (by omega), aU_s], aU_s, fun p' hp' => absurd hp' (Nat.not_lt_zero _), fun q j h1 h2 => by rw [aU_n (by omega), aU_n (by omega), aU_n (by omega)]⟩
set_option maxRecDepth 20000 in
set_option maxHeartbeats 8000000 in
theorem c_appA {I : Nat → Nat → Int32} {L : Nat → Nat → Int64} {c u d : Nat} (hc : c < 12) (hu : u ≤ 9999) (hd : d ≤ 9999) (h15 : I 15 c = nI 0) : aM mX3_append [.ref 10, .int (nI c), .int (nI u), .int (nI d)] (shP 8, I, L, RP6) (fun ans h' => ans = some (.int (nI 0)) ∧ ∃ I2, h' = (shP 8, aU I2 15 c (nI 1), L, RP6) ∧ slRep I2 (c * 3) u d ∧ stKeep I I2 (c * 3)) := by
  refine aM_of plX3_append (Nat.le_of_ble_eq_true rfl) ?_
  refine aX_aload_n dX3_append_0 rfl ?_
  refine aX_get dX3_append_1 lfX3_24 t10 g10_4 ?_
  refine aX_iload_n dX3_append_4 rfl ?_
  refine nIald (v := nI (0)) dX3_append_5 t15 (by first | omega | exact Nat.lt_of_le_of_lt (Nat.mod_le _ _) (by omega)) (by decide) (h15) ?_
  refine aX_istore (lv' := [(0, .ref 10), (1, .int (nI (c))), (2, .int (nI (u))), (3, .int (nI (d))), (4, .int (nI (0)))]) dX3_append_6 (by decide) rfl ?_
  refine aX_aload_n dX3_append_8 rfl ?_
  refine aX_iload_n dX3_append_9 rfl ?_
  refine aX_iconst (v := nI 3) dX3_append_10 (by decide) ?_
  refine nMul dX3_append_11 ?_
  refine aX_iload dX3_append_12 rfl ?_
  refine nAdd dX3_append_14 ?_
  refine aX_iload_n dX3_append_15 rfl ?_
  refine aX_iload_n dX3_append_16 rfl ?_
  refine cV (As := [.int (nI ((c * 3) + 0)), .int (nI (u)), .int (nI (d))]) (st := []) dX3_append_17 kX3_append_37 t10 aEok0 rfl rfl (Nat.le_of_ble_eq_true rfl) (c_storeA (by omega) hu hd) (fun ans' h' hq9 => ?_)
  obtain ⟨rfl, I2, rfl, hsl2, hk2⟩ := hq9
  refine ⟨rfl, ?_⟩
  refine aX_aload_n dX3_append_20 rfl ?_
  refine aX_get dX3_append_21 lfX3_24 t10 g10_4 ?_
  refine aX_iload_n dX3_append_24 rfl ?_
  refine aX_iload dX3_append_25 rfl ?_
  refine aX_iconst (v := nI 1) dX3_append_27 (by decide) ?_
  refine nAdd dX3_append_28 ?_
  refine nIast dX3_append_29 t15 (by first | omega | exact Nat.lt_of_le_of_lt (Nat.mod_le _ _) (by omega)) (by decide) ?_
  refine aX_iload dX3_append_30 rfl ?_
  exact rI dX3_append_32 rfl (⟨rfl, I2, rfl, hsl2, hk2⟩)
def rPt (I I1 : Nat → Nat → Int32) (n : Nat) : Prop := (∀ c, c < n → I1 15 c = nI 1 ∧ slRep I1 (c * 3) (uN c) (dN c)) ∧ (∀ c, n ≤ c → I1 15 c = nI 0) ∧ ∀ q j, (q < 11 ∨ 15 < q) → I1 q j = I q j
theorem slRep_u {I1 : Nat → Nat → Int32} {c sl a b : Nat} {v : Int32} (z : slRep I1 sl a b) : slRep (aU I1 15 c v) sl a b := ⟨by rw [aU_n (by omega)]; exact z.1, by rw [aU_n (by omega)]; exact z.2.1, by rw [aU_n (by omega)]; exact z.2.2.1, fun p hp => by rw [aU_n (by omega)]; exact z.2.2.2 p hp⟩
theorem rPt_step {I I1 I2 : Nat → Nat → Int32} {n : Nat} (h : rPt I I1 n) (hs : slRep I2 (n * 3) (uN n) (dN n)) (hk : stKeep I1 I2 (n * 3)) : rPt I (aU I2 15 n (nI 1)) (n + 1) := by
  refine ⟨fun c hc => ?_, fun c hc => ?_, fun q j hq => ?_⟩
  · by_cases e : c = n
    · subst e; exact ⟨aU_s, slRep_u hs⟩
    · refine ⟨?_, slRep_u (slRep_st hk (by omega) (h.1 c (by omega)).2)⟩
      rw [aU_n (by omega), hk 15 c (by omega) (by omega)]; exact (h.1 c (by omega)).1
  · rw [aU_n (by omega), hk 15 c (by omega) (by omega)]; exact h.2.1 c (by omega)
  · rw [aU_n (by omega), hk q j (by omega) (by omega)]; exact h.2.2 q j hq
theorem rOk_r0 : rOk r0 := fun c hc => ⟨by show 1 ≤ 3; omega, fun i hi => by
  have hi' : i < 1 := hi
  have e : (c * 3 + i) / 3 = c := by omega
  show 1 ≤ uN ((c * 3 + i) / 3) ∧ uN ((c * 3 + i) / 3) ≤ 9999 ∧ 1 ≤ dN ((c * 3 + i) / 3) ∧ dN ((c * 3 + i) / 3) ≤ 9999
  rw [e]; exact ud_in c hc⟩
theorem rPt_end {I I1 I2 : Nat → Nat → Int32} (h : rPt I I1 12) (hs : slRep I2 36 1 1) (hk : stKeep I1 I2 36) : rRep I2 r0 ∧ ∀ q j, (q < 11 ∨ 15 < q) → I2 q j = I q j := by
  refine ⟨⟨rOk_r0, fun c hc => ⟨?_, fun i hi => ?_⟩, hs⟩, fun q j hq => by rw [hk q j (by omega) (by omega)]; exact h.2.2 q j hq⟩
  · rw [hk 15 c (by omega) (by omega)]; exact (h.1 c hc).1
  · have hi' : i < 1 := hi
    have e : (c * 3 + i) / 3 = c := by omega
    have e0 : i = 0 := by omega
    show slRep I2 (c * 3 + i) (uN ((c * 3 + i) / 3)) (dN ((c * 3 + i) / 3))
    rw [e, e0]; exact slRep_st hk (by omega) (h.1 c hc).2
theorem rRep_k5 {I I' : Nat → Nat → Int32} {r : jR} (hk : ∀ q j, 11 ≤ q → q ≤ 15 → I' q j = I q j) (h : rRep I r) : rRep I' r := by
  have kp : ∀ sl a b, slRep I sl a b → slRep I' sl a b := fun sl a b z => ⟨(hk 11 _ (by omega) (by omega)).trans z.1, (hk 12 _ (by omega) (by omega)).trans z.2.1, (hk 13 _ (by omega) (by omega)).trans z.2.2.1, fun p hp => (hk 14 _ (by omega) (by omega)).trans (z.2.2.2 p hp)⟩
  exact ⟨h.1, fun c hc => ⟨(hk 15 _ (by omega) (by omega)).trans (h.2.1 c hc).1, fun i hi => kp _ _ _ ((h.2.1 c hc).2 i hi)⟩, kp _ _ _ h.2.2⟩
set_option maxRecDepth 20000 in
set_option maxHeartbeats 8000000 in
theorem l_X3i {I : Nat → Nat → Int32} {L : Nat → Nat → Int64} : ∀ (k9 c : Nat), c ≤ 12 → 12 - c = k9 → ∀ I1 : Nat → Nat → Int32, rPt I I1 c → aX mX3_init aE0 (shP 8, I1, L, RP6) 47 [(0, .ref 10), (1, .int (nI c))] [] 0 0 (fun ans h' => ans = none ∧ ∃ I', h' = (shP 8, I', L, RP6) ∧ rRep I' r0 ∧ ∀ q j, (q < 11 ∨ 15 < q) → I' q j = I q j) := by
  intro k9
  induction k9 using Nat.strongRecOn with
  | _ k9 ih =>
    intro c hi hk9 I1 hin
    refine aX_iload_n dX3_init_47 rfl ?_
    refine aX_bipush (v := nI 12) dX3_init_48 (by decide) ?_
    refine nGe (tgt := 75) dX3_init_50 (by decide) (by first | omega | exact Nat.lt_of_le_of_lt (Nat.mod_le _ _) (by omega)) (by first | omega | exact Nat.lt_of_le_of_lt (Nat.mod_le _ _) (by omega)) (fun c1 => ?_) (fun c1 => ?_)
    · refine aX_aload_n dX3_init_75 rfl ?_
      refine aX_bipush (v := nI 36) dX3_init_76 (by decide) ?_
      refine aX_iconst (v := nI 1) dX3_init_78 (by decide) ?_
      refine aX_iconst (v := nI 1) dX3_init_79 (by decide) ?_
      refine cV (As := [.int (nI (36)), .int (nI (1)), .int (nI (1))]) (st := []) dX3_init_80 kX3_init_37 t10 aEok0 rfl rfl (Nat.le_of_ble_eq_true rfl) (c_storeA (by omega) (by omega) (by omega)) (fun ans' h' hq9 => ?_)
      obtain ⟨rfl, I2, rfl, hsl2, hk2⟩ := hq9
      refine ⟨rfl, ?_⟩
      exact rV dX3_init_83 rfl (⟨rfl, _, rfl, rPt_end (show rPt I I1 12 from (show c = 12 by omega) ▸ hin) hsl2 hk2⟩)
    · refine aX_aload_n dX3_init_53 rfl ?_
      refine aX_iload_n dX3_init_54 rfl ?_
      refine aX_gets (i := 0) dX3_init_55 rfl (Or.inr lgX3_27) ?_
      refine aX_iload_n dX3_init_58 rfl ?_
      refine nEld dX3_init_59 rfl (by first | omega | exact Nat.lt_of_le_of_lt (Nat.mod_le _ _) (by omega)) (by decide) (u0_val _ (by omega)) ?_
      refine aX_gets (i := 1) dX3_init_60 rfl (Or.inr lgX3_30) ?_
      refine aX_iload_n dX3_init_63 rfl ?_
      refine nEld dX3_init_64 rfl (by first | omega | exact Nat.lt_of_le_of_lt (Nat.mod_le _ _) (by omega)) (by decide) (d0_val _ (by omega)) ?_
      refine cV (As := [.int (nI (c)), .int (nI (uN c)), .int (nI (dN c))]) (st := []) dX3_init_65 kX3_init_33 t10 aEok0 rfl rfl (Nat.le_of_ble_eq_true rfl) (c_appA (by omega) (ud_in c (by omega)).2.1 (ud_in c (by omega)).2.2.2 (hin.2.1 c (Nat.le_refl _))) (fun ans' h' hq9 => ?_)
      obtain ⟨rfl, I2, rfl, hsl2, hk2⟩ := hq9
      refine ⟨rfl, ?_⟩
      refine aX_pop dX3_init_68 rfl ?_
      refine nInc (lv' := [(0, .ref 10), (1, .int (nI (c + 1)))]) dX3_init_69 rfl rfl (by decide) rfl ?_
      refine aX_goto (tgt := 47) dX3_init_72 (by decide) ?_
      exact ih (12 - (c + 1)) (by omega) (c + 1) (by omega) rfl _ (rPt_step hin hsl2 hk2)
set_option maxRecDepth 20000 in
set_option maxHeartbeats 8000000 in
theorem i_X3_init {I : Nat → Nat → Int32} {L : Nat → Nat → Int64} (hz : FrZ 11 I L) : aM mX3_init [.ref 10] (shP 3, I, L, RP1) (fun ans h' => ans = none ∧ ∃ I', h' = (shP 8, I', L, RP6) ∧ rRep I' r0 ∧ ∀ q j, (q < 11 ∨ 15 < q) → I' q j = I q j) := by
  refine aM_of plX3_init (Nat.le_of_ble_eq_true rfl) ?_
  refine aX_aload_n dX3_init_0 rfl ?_
  refine aX_objInit (st := []) dX3_init_1 loX3_3 wO2 wO3 (Nat.le_of_ble_eq_true rfl) (Nat.le_of_ble_eq_true rfl) ?_
  refine aX_aload_n dX3_init_4 rfl ?_
  refine aX_bipush (v := nI 37) dX3_init_5 (by decide) ?_
  refine nNewa (id := 11) (sh' := shP 4) (bc' := 4) (bs' := 308) (kd := 0) (N := 37) dX3_init_7 (by decide) wA_int (by decide) rfl (by decide) rfl rfl (fun a b r h => Nat.lt_of_lt_of_le (wP1 a b r h) (by decide)) (FrZ_at hz (by decide)) (fun j => oP1 _ j (by decide)) rfl (Nat.le_of_ble_eq_true rfl) (Nat.le_of_ble_eq_true rfl) rfl rfl ?_
  refine pR (R' := RP2) dX3_init_9 lfX3_9 (fun _ _ _ hq => by cases hq; exact Or.inr ⟨rfl, rfl⟩) (ci := 3) (f := 0) rfl (Or.inr ⟨_, rfl⟩) rfl ?_
  refine aX_aload_n dX3_init_12 rfl ?_
  refine aX_bipush (v := nI 37) dX3_init_13 (by decide) ?_
  refine nNewa (id := 12) (sh' := shP 5) (bc' := 3) (bs' := 271) (kd := 0) (N := 37) dX3_init_15 (by decide) wA_int (by decide) rfl (by decide) rfl rfl (fun a b r h => Nat.lt_of_lt_of_le (wP2 a b r h) (by decide)) (FrZ_at hz (by decide)) (fun j => oP2 _ j (by decide)) rfl (Nat.le_of_ble_eq_true rfl) (Nat.le_of_ble_eq_true rfl) rfl rfl ?_
  refine pR (R' := RP3) dX3_init_17 lfX3_15 (fun _ _ _ hq => by cases hq; exact Or.inr ⟨rfl, rfl⟩) (ci := 3) (f := 1) rfl (Or.inr ⟨_, rfl⟩) rfl ?_
  refine aX_aload_n dX3_init_20 rfl ?_
  refine aX_bipush (v := nI 37) dX3_init_21 (by decide) ?_
  refine nNewa (id := 13) (sh' := shP 6) (bc' := 2) (bs' := 234) (kd := 0) (N := 37) dX3_init_23 (by decide) wA_int (by decide) rfl (by decide) rfl rfl (fun a b r h => Nat.lt_of_lt_of_le (wP3 a b r h) (by decide)) (FrZ_at hz (by decide)) (fun j => oP3 _ j (by decide)) rfl (Nat.le_of_ble_eq_true rfl) (Nat.le_of_ble_eq_true rfl) rfl rfl ?_
  refine pR (R' := RP4) dX3_init_25 lfX3_18 (fun _ _ _ hq => by cases hq; exact Or.inr ⟨rfl, rfl⟩) (ci := 3) (f := 2) rfl (Or.inr ⟨_, rfl⟩) rfl ?_
  refine aX_aload_n dX3_init_28 rfl ?_
  refine aX_sipush (v := nI 222) dX3_init_29 (by decide) ?_
  refine nNewa (id := 14) (sh' := shP 7) (bc' := 1) (bs' := 12) (kd := 0) (N := 222) dX3_init_32 (by decide) wA_int (by decide) rfl (by decide) rfl rfl (fun a b r h => Nat.lt_of_lt_of_le (wP4 a b r h) (by decide)) (FrZ_at hz (by decide)) (fun j => oP4 _ j (by decide)) rfl (Nat.le_of_ble_eq_true rfl) (Nat.le_of_ble_eq_true rfl) rfl rfl ?_
  refine pR (R' := RP5) dX3_init_34 lfX3_21 (fun _ _ _ hq => by cases hq; exact Or.inr ⟨rfl, rfl⟩) (ci := 3) (f := 3) rfl (Or.inr ⟨_, rfl⟩) rfl ?_
  refine aX_aload_n dX3_init_37 rfl ?_
  refine aX_bipush (v := nI 12) dX3_init_38 (by decide) ?_
  refine nNewa (id := 15) (sh' := shP 8) (bc' := 0) (bs' := 0) (kd := 0) (N := 12) dX3_init_40 (by decide) wA_int (by decide) rfl (by decide) rfl rfl (fun a b r h => Nat.lt_of_lt_of_le (wP5 a b r h) (by decide)) (FrZ_at hz (by decide)) (fun j => oP5 _ j (by decide)) rfl (Nat.le_of_ble_eq_true rfl) (Nat.le_of_ble_eq_true rfl) rfl rfl ?_
  refine pR (R' := RP6) dX3_init_42 lfX3_24 (fun _ _ _ hq => by cases hq; exact Or.inr ⟨rfl, rfl⟩) (ci := 3) (f := 4) rfl (Or.inr ⟨_, rfl⟩) rfl ?_
  refine aX_iconst (v := nI 0) dX3_init_45 (by decide) ?_
  refine aX_istore_n (lv' := [(0, .ref 10), (1, .int (nI 0))]) dX3_init_46 (by decide) rfl ?_
  exact l_X3i _ 0 (by omega) rfl I ⟨fun c hc => absurd hc (Nat.not_lt_zero _), fun c _ => (hz 15 c (by omega)).1, fun _ _ _ => rfl⟩
set_option maxRecDepth 20000 in
set_option maxHeartbeats 8000000 in
theorem i_X5_init {I : Nat → Nat → Int32} {L : Nat → Nat → Int64} (hz : FrZ 17 I L) : aM mX5_init [.ref 16] (shP 9, I, L, RP7) (fun ans h' => ans = none ∧ h' = (shP 20, I, L, RP18)) := by
  refine aM_of plX5_init (Nat.le_of_ble_eq_true rfl) ?_
  refine aX_aload_n dX5_init_0 rfl ?_
  refine aX_objInit (st := []) dX5_init_1 loX5_3 wO2 wO3 (Nat.le_of_ble_eq_true rfl) (Nat.le_of_ble_eq_true rfl) ?_
  refine aX_aload_n dX5_init_4 rfl ?_
  refine aX_bipush (v := nI 16) dX5_init_5 (by decide) ?_
  refine nNewa (id := 17) (sh' := shP 10) (bc' := 10) (bs' := 860) (kd := 0) (N := 16) dX5_init_7 (by decide) wA_int (by decide) rfl (by decide) rfl rfl (fun a b r h => Nat.lt_of_lt_of_le (wP7 a b r h) (by decide)) (FrZ_at hz (by decide)) (fun j => oP7 _ j (by decide)) rfl (Nat.le_of_ble_eq_true rfl) (Nat.le_of_ble_eq_true rfl) rfl rfl ?_
  refine pR (R' := RP8) dX5_init_9 lfX5_9 (fun _ _ _ hq => by cases hq; exact Or.inr ⟨rfl, rfl⟩) (ci := 5) (f := 1) rfl (Or.inr ⟨_, rfl⟩) rfl ?_
  refine aX_aload_n dX5_init_12 rfl ?_
  refine aX_bipush (v := nI 16) dX5_init_13 (by decide) ?_
  refine nNewa (id := 18) (sh' := shP 11) (bc' := 9) (bs' := 844) (kd := 0) (N := 16) dX5_init_15 (by decide) wA_int (by decide) rfl (by decide) rfl rfl (fun a b r h => Nat.lt_of_lt_of_le (wP8 a b r h) (by decide)) (FrZ_at hz (by decide)) (fun j => oP8 _ j (by decide)) rfl (Nat.le_of_ble_eq_true rfl) (Nat.le_of_ble_eq_true rfl) rfl rfl ?_
  refine pR (R' := RP9) dX5_init_17 lfX5_15 (fun _ _ _ hq => by cases hq; exact Or.inr ⟨rfl, rfl⟩) (ci := 5) (f := 2) rfl (Or.inr ⟨_, rfl⟩) rfl ?_
  refine aX_aload_n dX5_init_20 rfl ?_
  refine aX_bipush (v := nI 16) dX5_init_21 (by decide) ?_
  refine nNewa (id := 19) (sh' := shP 12) (bc' := 8) (bs' := 828) (kd := 0) (N := 16) dX5_init_23 (by decide) wA_int (by decide) rfl (by decide) rfl rfl (fun a b r h => Nat.lt_of_lt_of_le (wP9 a b r h) (by decide)) (FrZ_at hz (by decide)) (fun j => oP9 _ j (by decide)) rfl (Nat.le_of_ble_eq_true rfl) (Nat.le_of_ble_eq_true rfl) rfl rfl ?_
  refine pR (R' := RP10) dX5_init_25 lfX5_18 (fun _ _ _ hq => by cases hq; exact Or.inr ⟨rfl, rfl⟩) (ci := 5) (f := 3) rfl (Or.inr ⟨_, rfl⟩) rfl ?_
  refine aX_aload_n dX5_init_28 rfl ?_
  refine aX_bipush (v := nI 16) dX5_init_29 (by decide) ?_
  refine nNewa (id := 20) (sh' := shP 13) (bc' := 7) (bs' := 812) (kd := 1) (N := 16) dX5_init_31 (by decide) wA_boolean (by decide) rfl (by decide) rfl rfl (fun a b r h => Nat.lt_of_lt_of_le (wP10 a b r h) (by decide)) (FrZ_at hz (by decide)) (fun j => oP10 _ j (by decide)) rfl (Nat.le_of_ble_eq_true rfl) (Nat.le_of_ble_eq_true rfl) rfl rfl ?_
  refine pR (R' := RP11) dX5_init_33 lfX5_21 (fun _ _ _ hq => by cases hq; exact Or.inr ⟨rfl, rfl⟩) (ci := 5) (f := 4) rfl (Or.inr ⟨_, rfl⟩) rfl ?_
  refine aX_aload_n dX5_init_36 rfl ?_
  refine aX_bipush (v := nI 31) dX5_init_37 (by decide) ?_
  refine nNewa (id := 21) (sh' := shP 14) (bc' := 6) (bs' := 781) (kd := 0) (N := 31) dX5_init_39 (by decide) wA_int (by decide) rfl (by decide) rfl rfl (fun a b r h => Nat.lt_of_lt_of_le (wP11 a b r h) (by decide)) (FrZ_at hz (by decide)) (fun j => oP11 _ j (by decide)) rfl (Nat.le_of_ble_eq_true rfl) (Nat.le_of_ble_eq_true rfl) rfl rfl ?_
  refine pR (R' := RP12) dX5_init_41 lfX5_25 (fun _ _ _ hq => by cases hq; exact Or.inr ⟨rfl, rfl⟩) (ci := 5) (f := 6) rfl (Or.inr ⟨_, rfl⟩) rfl ?_
  refine aX_aload_n dX5_init_44 rfl ?_
  refine aX_bipush (v := nI 31) dX5_init_45 (by decide) ?_
  refine nNewa (id := 22) (sh' := shP 15) (bc' := 5) (bs' := 750) (kd := 0) (N := 31) dX5_init_47 (by decide) wA_int (by decide) rfl (by decide) rfl rfl (fun a b r h => Nat.lt_of_lt_of_le (wP12 a b r h) (by decide)) (FrZ_at hz (by decide)) (fun j => oP12 _ j (by decide)) rfl (Nat.le_of_ble_eq_true rfl) (Nat.le_of_ble_eq_true rfl) rfl rfl ?_
  refine pR (R' := RP13) dX5_init_49 lfX5_28 (fun _ _ _ hq => by cases hq; exact Or.inr ⟨rfl, rfl⟩) (ci := 5) (f := 7) rfl (Or.inr ⟨_, rfl⟩) rfl ?_
  refine aX_aload_n dX5_init_52 rfl ?_
  refine aX_bipush (v := nI 31) dX5_init_53 (by decide) ?_
  refine nNewa (id := 23) (sh' := shP 16) (bc' := 4) (bs' := 719) (kd := 0) (N := 31) dX5_init_55 (by decide) wA_int (by decide) rfl (by decide) rfl rfl (fun a b r h => Nat.lt_of_lt_of_le (wP13 a b r h) (by decide)) (FrZ_at hz (by decide)) (fun j => oP13 _ j (by decide)) rfl (Nat.le_of_ble_eq_true rfl) (Nat.le_of_ble_eq_true rfl) rfl rfl ?_
  refine pR (R' := RP14) dX5_init_57 lfX5_31 (fun _ _ _ hq => by cases hq; exact Or.inr ⟨rfl, rfl⟩) (ci := 5) (f := 8) rfl (Or.inr ⟨_, rfl⟩) rfl ?_
  refine aX_aload_n dX5_init_60 rfl ?_
  refine aX_bipush (v := nI 31) dX5_init_61 (by decide) ?_
  refine nNewa (id := 24) (sh' := shP 17) (bc' := 3) (bs' := 688) (kd := 0) (N := 31) dX5_init_63 (by decide) wA_int (by decide) rfl (by decide) rfl rfl (fun a b r h => Nat.lt_of_lt_of_le (wP14 a b r h) (by decide)) (FrZ_at hz (by decide)) (fun j => oP14 _ j (by decide)) rfl (Nat.le_of_ble_eq_true rfl) (Nat.le_of_ble_eq_true rfl) rfl rfl ?_
  refine pR (R' := RP15) dX5_init_65 lfX5_34 (fun _ _ _ hq => by cases hq; exact Or.inr ⟨rfl, rfl⟩) (ci := 5) (f := 9) rfl (Or.inr ⟨_, rfl⟩) rfl ?_
  refine aX_aload_n dX5_init_68 rfl ?_
  refine aX_sipush (v := nI 186) dX5_init_69 (by decide) ?_
  refine nNewa (id := 25) (sh' := shP 18) (bc' := 2) (bs' := 502) (kd := 0) (N := 186) dX5_init_72 (by decide) wA_int (by decide) rfl (by decide) rfl rfl (fun a b r h => Nat.lt_of_lt_of_le (wP15 a b r h) (by decide)) (FrZ_at hz (by decide)) (fun j => oP15 _ j (by decide)) rfl (Nat.le_of_ble_eq_true rfl) (Nat.le_of_ble_eq_true rfl) rfl rfl ?_
  refine pR (R' := RP16) dX5_init_74 lfX5_37 (fun _ _ _ hq => by cases hq; exact Or.inr ⟨rfl, rfl⟩) (ci := 5) (f := 10) rfl (Or.inr ⟨_, rfl⟩) rfl ?_
  refine aX_aload_n dX5_init_77 rfl ?_
  refine aX_sipush (v := nI 496) dX5_init_78 (by decide) ?_
  refine nNewa (id := 26) (sh' := shP 19) (bc' := 1) (bs' := 6) (kd := 0) (N := 496) dX5_init_81 (by decide) wA_int (by decide) rfl (by decide) rfl rfl (fun a b r h => Nat.lt_of_lt_of_le (wP16 a b r h) (by decide)) (FrZ_at hz (by decide)) (fun j => oP16 _ j (by decide)) rfl (Nat.le_of_ble_eq_true rfl) (Nat.le_of_ble_eq_true rfl) rfl rfl ?_
  refine pR (R' := RP17) dX5_init_83 lfX5_40 (fun _ _ _ hq => by cases hq; exact Or.inr ⟨rfl, rfl⟩) (ci := 5) (f := 12) rfl (Or.inr ⟨_, rfl⟩) rfl ?_
  refine aX_aload_n dX5_init_86 rfl ?_
  refine aX_bipush (v := nI 6) dX5_init_87 (by decide) ?_
  refine nNewa (id := 27) (sh' := shP 20) (bc' := 0) (bs' := 0) (kd := 0) (N := 6) dX5_init_89 (by decide) wA_int (by decide) rfl (by decide) rfl rfl (fun a b r h => Nat.lt_of_lt_of_le (wP17 a b r h) (by decide)) (FrZ_at hz (by decide)) (fun j => oP17 _ j (by decide)) rfl (Nat.le_of_ble_eq_true rfl) (Nat.le_of_ble_eq_true rfl) rfl rfl ?_
  refine pR (R' := RP18) dX5_init_91 lfX5_43 (fun _ _ _ hq => by cases hq; exact Or.inr ⟨rfl, rfl⟩) (ci := 5) (f := 14) rfl (Or.inr ⟨_, rfl⟩) rfl ?_
  exact rV dX5_init_94 rfl (⟨rfl, rfl⟩)
set_option maxRecDepth 20000 in
set_option maxHeartbeats 8000000 in
theorem i_X2_init {I : Nat → Nat → Int32} {L : Nat → Nat → Int64} (hz : FrZ 29 I L) : aM mX2_init [.ref 28] (shP 21, I, L, RP19) (fun ans h' => ans = none ∧ h' = (shP 29, I, L, RP27)) := by
  refine aM_of plX2_init (Nat.le_of_ble_eq_true rfl) ?_
  refine aX_aload_n dX2_init_0 rfl ?_
  refine aX_objInit (st := []) dX2_init_1 loX2_3 wO2 wO3 (Nat.le_of_ble_eq_true rfl) (Nat.le_of_ble_eq_true rfl) ?_
  refine aX_aload_n dX2_init_4 rfl ?_
  refine nNew (id := 29) (sh' := shP 22) (bc' := 7) (bs' := 54) (ci := 9) dX2_init_5 lnX2_9 rfl rfl (fun a b r h => Nat.lt_of_lt_of_le (wP19 a b r h) (by decide)) (FrZ_at hz (by decide)) (fun j => oP19 _ j (by decide)) rfl (Nat.le_of_ble_eq_true rfl) (Nat.le_of_ble_eq_true rfl) rfl rfl ?_
  refine aX_dup dX2_init_8 rfl ?_
  refine nCallI (As := []) (st := [.ref 29, .ref 28]) (bc' := 6) (bs' := 42) dX2_init_9 wmX9_init (Or.inr lmX2_11) wiX9_init rfl rfl pnX9_init ⟨by decide, by decide⟩ rfl rfl (Nat.le_of_ble_eq_true rfl) aEok0 rfl (i_Whole (id := 30) (o := 29) (z := 0) rfl rfl (fun a b r h => Nat.lt_of_lt_of_le (wP19 a b r h) (by decide)) (FrZ_at hz (by decide)) (fun j => oP19 _ j (by decide)) (by decide)) (Nat.le_of_ble_eq_true rfl) (Nat.le_of_ble_eq_true rfl) rfl rfl (fun ans' h' hq9 => ?_)
  obtain ⟨rfl, rfl⟩ := hq9
  refine ⟨rfl, ?_⟩
  refine aX_heap (h' := (shP 23, I, L, RP20)) rfl ?_
  refine pR (R' := RP21) dX2_init_12 lfX2_12 (fun _ _ _ hq => by cases hq; exact Or.inr ⟨rfl, rfl⟩) (ci := 2) (f := 0) rfl (Or.inl ⟨_, rfl⟩) rfl ?_
  refine aX_aload_n dX2_init_15 rfl ?_
  refine nNew (id := 31) (sh' := shP 24) (bc' := 5) (bs' := 40) (ci := 9) dX2_init_16 lnX2_9 rfl rfl (fun a b r h => Nat.lt_of_lt_of_le (wP21 a b r h) (by decide)) (FrZ_at hz (by decide)) (fun j => oP21 _ j (by decide)) rfl (Nat.le_of_ble_eq_true rfl) (Nat.le_of_ble_eq_true rfl) rfl rfl ?_
  refine aX_dup dX2_init_19 rfl ?_
  refine nCallI (As := []) (st := [.ref 31, .ref 28]) (bc' := 4) (bs' := 28) dX2_init_20 wmX9_init (Or.inr lmX2_11) wiX9_init rfl rfl pnX9_init ⟨by decide, by decide⟩ rfl rfl (Nat.le_of_ble_eq_true rfl) aEok0 rfl (i_Whole (id := 32) (o := 31) (z := 0) rfl rfl (fun a b r h => Nat.lt_of_lt_of_le (wP21 a b r h) (by decide)) (FrZ_at hz (by decide)) (fun j => oP21 _ j (by decide)) (by decide)) (Nat.le_of_ble_eq_true rfl) (Nat.le_of_ble_eq_true rfl) rfl rfl (fun ans' h' hq9 => ?_)
  obtain ⟨rfl, rfl⟩ := hq9
  refine ⟨rfl, ?_⟩
  refine aX_heap (h' := (shP 25, I, L, RP22)) rfl ?_
  refine pR (R' := RP23) dX2_init_23 lfX2_18 (fun _ _ _ hq => by cases hq; exact Or.inr ⟨rfl, rfl⟩) (ci := 2) (f := 1) rfl (Or.inl ⟨_, rfl⟩) rfl ?_
  refine aX_aload_n dX2_init_26 rfl ?_
  refine nNew (id := 33) (sh' := shP 26) (bc' := 3) (bs' := 26) (ci := 9) dX2_init_27 lnX2_9 rfl rfl (fun a b r h => Nat.lt_of_lt_of_le (wP23 a b r h) (by decide)) (FrZ_at hz (by decide)) (fun j => oP23 _ j (by decide)) rfl (Nat.le_of_ble_eq_true rfl) (Nat.le_of_ble_eq_true rfl) rfl rfl ?_
  refine aX_dup dX2_init_30 rfl ?_
  refine nCallI (As := []) (st := [.ref 33, .ref 28]) (bc' := 2) (bs' := 14) dX2_init_31 wmX9_init (Or.inr lmX2_11) wiX9_init rfl rfl pnX9_init ⟨by decide, by decide⟩ rfl rfl (Nat.le_of_ble_eq_true rfl) aEok0 rfl (i_Whole (id := 34) (o := 33) (z := 0) rfl rfl (fun a b r h => Nat.lt_of_lt_of_le (wP23 a b r h) (by decide)) (FrZ_at hz (by decide)) (fun j => oP23 _ j (by decide)) (by decide)) (Nat.le_of_ble_eq_true rfl) (Nat.le_of_ble_eq_true rfl) rfl rfl (fun ans' h' hq9 => ?_)
  obtain ⟨rfl, rfl⟩ := hq9
  refine ⟨rfl, ?_⟩
  refine aX_heap (h' := (shP 27, I, L, RP24)) rfl ?_
  refine pR (R' := RP25) dX2_init_34 lfX2_21 (fun _ _ _ hq => by cases hq; exact Or.inr ⟨rfl, rfl⟩) (ci := 2) (f := 2) rfl (Or.inl ⟨_, rfl⟩) rfl ?_
  refine aX_aload_n dX2_init_37 rfl ?_
  refine nNew (id := 35) (sh' := shP 28) (bc' := 1) (bs' := 12) (ci := 9) dX2_init_38 lnX2_9 rfl rfl (fun a b r h => Nat.lt_of_lt_of_le (wP25 a b r h) (by decide)) (FrZ_at hz (by decide)) (fun j => oP25 _ j (by decide)) rfl (Nat.le_of_ble_eq_true rfl) (Nat.le_of_ble_eq_true rfl) rfl rfl ?_
  refine aX_dup dX2_init_41 rfl ?_
  refine nCallI (As := []) (st := [.ref 35, .ref 28]) (bc' := 0) (bs' := 0) dX2_init_42 wmX9_init (Or.inr lmX2_11) wiX9_init rfl rfl pnX9_init ⟨by decide, by decide⟩ rfl rfl (Nat.le_of_ble_eq_true rfl) aEok0 rfl (i_Whole (id := 36) (o := 35) (z := 0) rfl rfl (fun a b r h => Nat.lt_of_lt_of_le (wP25 a b r h) (by decide)) (FrZ_at hz (by decide)) (fun j => oP25 _ j (by decide)) (by decide)) (Nat.le_of_ble_eq_true rfl) (Nat.le_of_ble_eq_true rfl) rfl rfl (fun ans' h' hq9 => ?_)
  obtain ⟨rfl, rfl⟩ := hq9
  refine ⟨rfl, ?_⟩
  refine aX_heap (h' := (shP 29, I, L, RP26)) rfl ?_
  refine pR (R' := RP27) dX2_init_45 lfX2_24 (fun _ _ _ hq => by cases hq; exact Or.inr ⟨rfl, rfl⟩) (ci := 2) (f := 3) rfl (Or.inl ⟨_, rfl⟩) rfl ?_
  exact rV dX2_init_48 rfl (⟨rfl, rfl⟩)
set_option maxRecDepth 20000 in
set_option maxHeartbeats 8000000 in
theorem i_X8_init {I : Nat → Nat → Int32} {L : Nat → Nat → Int64} (hz : FrZ 38 I L) : aM mX8_init [.ref 37] (shP 30, I, L, RP28) (fun ans h' => ans = none ∧ h' = (shP 31, I, L, RP29)) := by
  refine aM_of plX8_init (Nat.le_of_ble_eq_true rfl) ?_
  refine aX_aload_n dX8_init_0 rfl ?_
  refine aX_objInit (st := []) dX8_init_1 loX8_3 wO2 wO3 (Nat.le_of_ble_eq_true rfl) (Nat.le_of_ble_eq_true rfl) ?_
  refine aX_aload_n dX8_init_4 rfl ?_
  refine aX_sipush (v := nI 256) dX8_init_5 (by decide) ?_
  refine nNewa (id := 38) (sh' := shP 31) (bc' := 0) (bs' := 0) (kd := 2) (N := 256) dX8_init_8 (by decide) wA_byte (by decide) rfl (by decide) rfl rfl (fun a b r h => Nat.lt_of_lt_of_le (wP28 a b r h) (by decide)) (FrZ_at hz (by decide)) (fun j => oP28 _ j (by decide)) rfl (Nat.le_of_ble_eq_true rfl) (Nat.le_of_ble_eq_true rfl) rfl rfl ?_
  refine pR (R' := RP29) dX8_init_10 lfX8_9 (fun _ _ _ hq => by cases hq; exact Or.inr ⟨rfl, rfl⟩) (ci := 8) (f := 0) rfl (Or.inr ⟨_, rfl⟩) rfl ?_
  exact rV dX8_init_13 rfl (⟨rfl, rfl⟩)
set_option maxRecDepth 20000 in
set_option maxHeartbeats 8000000 in
theorem i_X4_init {I : Nat → Nat → Int32} {L : Nat → Nat → Int64} (hz : FrZ 40 I L) : aM mX4_init [.ref 39, .ref 16, .ref 10] (shP 32, I, L, RP30) (fun ans h' => ans = none ∧ h' = (shP 33, I, L, RP33)) := by
  refine aM_of plX4_init (Nat.le_of_ble_eq_true rfl) ?_
  refine aX_aload_n dX4_init_0 rfl ?_
  refine aX_objInit (st := []) dX4_init_1 loX4_3 wO2 wO3 (Nat.le_of_ble_eq_true rfl) (Nat.le_of_ble_eq_true rfl) ?_
  refine aX_aload_n dX4_init_4 rfl ?_
  refine aX_bipush (v := nI 16) dX4_init_5 (by decide) ?_
  refine nNewa (id := 40) (sh' := shP 33) (bc' := 0) (bs' := 0) (kd := 0) (N := 16) dX4_init_7 (by decide) wA_int (by decide) rfl (by decide) rfl rfl (fun a b r h => Nat.lt_of_lt_of_le (wP30 a b r h) (by decide)) (FrZ_at hz (by decide)) (fun j => oP30 _ j (by decide)) rfl (Nat.le_of_ble_eq_true rfl) (Nat.le_of_ble_eq_true rfl) rfl rfl ?_
  refine pR (R' := RP31) dX4_init_9 lfX4_9 (fun _ _ _ hq => by cases hq; exact Or.inr ⟨rfl, rfl⟩) (ci := 4) (f := 2) rfl (Or.inr ⟨_, rfl⟩) rfl ?_
  refine aX_aload_n dX4_init_12 rfl ?_
  refine aX_aload_n dX4_init_13 rfl ?_
  refine pR (R' := RP32) dX4_init_14 lfX4_15 (fun _ _ _ hq => by cases hq; exact Or.inr ⟨rfl, rfl⟩) (ci := 4) (f := 0) rfl (Or.inl ⟨_, rfl⟩) rfl ?_
  refine aX_aload_n dX4_init_17 rfl ?_
  refine aX_aload_n dX4_init_18 rfl ?_
  refine pR (R' := RP33) dX4_init_19 lfX4_19 (fun _ _ _ hq => by cases hq; exact Or.inr ⟨rfl, rfl⟩) (ci := 4) (f := 1) rfl (Or.inl ⟨_, rfl⟩) rfl ?_
  exact rV dX4_init_22 rfl (⟨rfl, rfl⟩)
set_option maxRecDepth 20000 in
set_option maxHeartbeats 8000000 in
theorem i_X1_init {I : Nat → Nat → Int32} {L : Nat → Nat → Int64} (hz : FrZ 42 I L) : aM mX1_init [.ref 41, .ref 16, .ref 39, .ref 9] (shP 34, I, L, RP34) (fun ans h' => ans = none ∧ h' = (shP 41, I, L, RP44)) := by
  refine aM_of plX1_init (Nat.le_of_ble_eq_true rfl) ?_
  refine aX_aload_n dX1_init_0 rfl ?_
  refine aX_objInit (st := []) dX1_init_1 loX1_3 wO2 wO3 (Nat.le_of_ble_eq_true rfl) (Nat.le_of_ble_eq_true rfl) ?_
  refine aX_aload_n dX1_init_4 rfl ?_
  refine aX_bipush (v := nI 31) dX1_init_5 (by decide) ?_
  refine nNewa (id := 42) (sh' := shP 35) (bc' := 6) (bs' := 2911) (kd := 0) (N := 31) dX1_init_7 (by decide) wA_int (by decide) rfl (by decide) rfl rfl (fun a b r h => Nat.lt_of_lt_of_le (wP34 a b r h) (by decide)) (FrZ_at hz (by decide)) (fun j => oP34 _ j (by decide)) rfl (Nat.le_of_ble_eq_true rfl) (Nat.le_of_ble_eq_true rfl) rfl rfl ?_
  refine pR (R' := RP35) dX1_init_9 lfX1_9 (fun _ _ _ hq => by cases hq; exact Or.inr ⟨rfl, rfl⟩) (ci := 1) (f := 3) rfl (Or.inr ⟨_, rfl⟩) rfl ?_
  refine aX_aload_n dX1_init_12 rfl ?_
  refine aX_bipush (v := nI 31) dX1_init_13 (by decide) ?_
  refine nNewa (id := 43) (sh' := shP 36) (bc' := 5) (bs' := 2880) (kd := 0) (N := 31) dX1_init_15 (by decide) wA_int (by decide) rfl (by decide) rfl rfl (fun a b r h => Nat.lt_of_lt_of_le (wP35 a b r h) (by decide)) (FrZ_at hz (by decide)) (fun j => oP35 _ j (by decide)) rfl (Nat.le_of_ble_eq_true rfl) (Nat.le_of_ble_eq_true rfl) rfl rfl ?_
  refine pR (R' := RP36) dX1_init_17 lfX1_15 (fun _ _ _ hq => by cases hq; exact Or.inr ⟨rfl, rfl⟩) (ci := 1) (f := 4) rfl (Or.inr ⟨_, rfl⟩) rfl ?_
  refine aX_aload_n dX1_init_20 rfl ?_
  refine aX_bipush (v := nI 64) dX1_init_21 (by decide) ?_
  refine nNewa (id := 44) (sh' := shP 37) (bc' := 4) (bs' := 2816) (kd := 3) (N := 64) dX1_init_23 (by decide) wA_long (by decide) rfl (by decide) rfl rfl (fun a b r h => Nat.lt_of_lt_of_le (wP36 a b r h) (by decide)) (FrZ_at hz (by decide)) (fun j => oP36 _ j (by decide)) rfl (Nat.le_of_ble_eq_true rfl) (Nat.le_of_ble_eq_true rfl) rfl rfl ?_
  refine pR (R' := RP37) dX1_init_25 lfX1_18 (fun _ _ _ hq => by cases hq; exact Or.inr ⟨rfl, rfl⟩) (ci := 1) (f := 5) rfl (Or.inr ⟨_, rfl⟩) rfl ?_
  refine aX_aload_n dX1_init_28 rfl ?_
  refine aX_bipush (v := nI 64) dX1_init_29 (by decide) ?_
  refine nNewa (id := 45) (sh' := shP 38) (bc' := 3) (bs' := 2752) (kd := 3) (N := 64) dX1_init_31 (by decide) wA_long (by decide) rfl (by decide) rfl rfl (fun a b r h => Nat.lt_of_lt_of_le (wP37 a b r h) (by decide)) (FrZ_at hz (by decide)) (fun j => oP37 _ j (by decide)) rfl (Nat.le_of_ble_eq_true rfl) (Nat.le_of_ble_eq_true rfl) rfl rfl ?_
  refine pR (R' := RP38) dX1_init_33 lfX1_22 (fun _ _ _ hq => by cases hq; exact Or.inr ⟨rfl, rfl⟩) (ci := 1) (f := 6) rfl (Or.inr ⟨_, rfl⟩) rfl ?_
  refine aX_aload_n dX1_init_36 rfl ?_
  refine aX_sipush (v := nI 1984) dX1_init_37 (by decide) ?_
  refine nNewa (id := 46) (sh' := shP 39) (bc' := 2) (bs' := 768) (kd := 0) (N := 1984) dX1_init_40 (by decide) wA_int (by decide) rfl (by decide) rfl rfl (fun a b r h => Nat.lt_of_lt_of_le (wP38 a b r h) (by decide)) (FrZ_at hz (by decide)) (fun j => oP38 _ j (by decide)) rfl (Nat.le_of_ble_eq_true rfl) (Nat.le_of_ble_eq_true rfl) rfl rfl ?_
  refine pR (R' := RP39) dX1_init_42 lfX1_25 (fun _ _ _ hq => by cases hq; exact Or.inr ⟨rfl, rfl⟩) (ci := 1) (f := 7) rfl (Or.inr ⟨_, rfl⟩) rfl ?_
  refine aX_aload_n dX1_init_45 rfl ?_
  refine aX_sipush (v := nI 384) dX1_init_46 (by decide) ?_
  refine nNewa (id := 47) (sh' := shP 40) (bc' := 1) (bs' := 384) (kd := 0) (N := 384) dX1_init_49 (by decide) wA_int (by decide) rfl (by decide) rfl rfl (fun a b r h => Nat.lt_of_lt_of_le (wP39 a b r h) (by decide)) (FrZ_at hz (by decide)) (fun j => oP39 _ j (by decide)) rfl (Nat.le_of_ble_eq_true rfl) (Nat.le_of_ble_eq_true rfl) rfl rfl ?_
  refine pR (R' := RP40) dX1_init_51 lfX1_28 (fun _ _ _ hq => by cases hq; exact Or.inr ⟨rfl, rfl⟩) (ci := 1) (f := 8) rfl (Or.inr ⟨_, rfl⟩) rfl ?_
  refine aX_aload_n dX1_init_54 rfl ?_
  refine aX_sipush (v := nI 384) dX1_init_55 (by decide) ?_
  refine nNewa (id := 48) (sh' := shP 41) (bc' := 0) (bs' := 0) (kd := 0) (N := 384) dX1_init_58 (by decide) wA_int (by decide) rfl (by decide) rfl rfl (fun a b r h => Nat.lt_of_lt_of_le (wP40 a b r h) (by decide)) (FrZ_at hz (by decide)) (fun j => oP40 _ j (by decide)) rfl (Nat.le_of_ble_eq_true rfl) (Nat.le_of_ble_eq_true rfl) rfl rfl ?_
  refine pR (R' := RP41) dX1_init_60 lfX1_31 (fun _ _ _ hq => by cases hq; exact Or.inr ⟨rfl, rfl⟩) (ci := 1) (f := 9) rfl (Or.inr ⟨_, rfl⟩) rfl ?_
  refine aX_aload_n dX1_init_63 rfl ?_
  refine aX_aload_n dX1_init_64 rfl ?_
  refine pR (R' := RP42) dX1_init_65 lfX1_34 (fun _ _ _ hq => by cases hq; exact Or.inr ⟨rfl, rfl⟩) (ci := 1) (f := 0) rfl (Or.inl ⟨_, rfl⟩) rfl ?_
  refine aX_aload_n dX1_init_68 rfl ?_
  refine aX_aload_n dX1_init_69 rfl ?_
  refine pR (R' := RP43) dX1_init_70 lfX1_38 (fun _ _ _ hq => by cases hq; exact Or.inr ⟨rfl, rfl⟩) (ci := 1) (f := 1) rfl (Or.inl ⟨_, rfl⟩) rfl ?_
  refine aX_aload_n dX1_init_73 rfl ?_
  refine aX_aload_n dX1_init_74 rfl ?_
  refine pR (R' := RP44) dX1_init_75 lfX1_42 (fun _ _ _ hq => by cases hq; exact Or.inr ⟨rfl, rfl⟩) (ci := 1) (f := 2) rfl (Or.inr ⟨_, rfl⟩) rfl ?_
  exact rV dX1_init_78 rfl (⟨rfl, rfl⟩)
set_option maxRecDepth 20000 in
set_option maxHeartbeats 8000000 in
theorem i_X0_init {I : Nat → Nat → Int32} {L : Nat → Nat → Int64} (hz : FrZ 50 I L) : aM mX0_init [.ref 49, .ref 16, .ref 10, .ref 39, .ref 41] (shP 42, I, L, RP45) (fun ans h' => ans = none ∧ h' = (shP 45, I, L, RP52)) := by
  refine aM_of plX0_init (Nat.le_of_ble_eq_true rfl) ?_
  refine aX_aload_n dX0_init_0 rfl ?_
  refine aX_objInit (st := []) dX0_init_1 loX0_3 wO2 wO3 (Nat.le_of_ble_eq_true rfl) (Nat.le_of_ble_eq_true rfl) ?_
  refine aX_aload_n dX0_init_4 rfl ?_
  refine aX_sipush (v := nI 186) dX0_init_5 (by decide) ?_
  refine nNewa (id := 50) (sh' := shP 43) (bc' := 2) (bs' := 62) (kd := 0) (N := 186) dX0_init_8 (by decide) wA_int (by decide) rfl (by decide) rfl rfl (fun a b r h => Nat.lt_of_lt_of_le (wP45 a b r h) (by decide)) (FrZ_at hz (by decide)) (fun j => oP45 _ j (by decide)) rfl (Nat.le_of_ble_eq_true rfl) (Nat.le_of_ble_eq_true rfl) rfl rfl ?_
  refine pR (R' := RP46) dX0_init_10 lfX0_9 (fun _ _ _ hq => by cases hq; exact Or.inr ⟨rfl, rfl⟩) (ci := 0) (f := 4) rfl (Or.inr ⟨_, rfl⟩) rfl ?_
  refine aX_aload_n dX0_init_13 rfl ?_
  refine aX_bipush (v := nI 31) dX0_init_14 (by decide) ?_
  refine nNewa (id := 51) (sh' := shP 44) (bc' := 1) (bs' := 31) (kd := 0) (N := 31) dX0_init_16 (by decide) wA_int (by decide) rfl (by decide) rfl rfl (fun a b r h => Nat.lt_of_lt_of_le (wP46 a b r h) (by decide)) (FrZ_at hz (by decide)) (fun j => oP46 _ j (by decide)) rfl (Nat.le_of_ble_eq_true rfl) (Nat.le_of_ble_eq_true rfl) rfl rfl ?_
  refine pR (R' := RP47) dX0_init_18 lfX0_15 (fun _ _ _ hq => by cases hq; exact Or.inr ⟨rfl, rfl⟩) (ci := 0) (f := 5) rfl (Or.inr ⟨_, rfl⟩) rfl ?_
  refine aX_aload_n dX0_init_21 rfl ?_
  refine aX_bipush (v := nI 31) dX0_init_22 (by decide) ?_
  refine nNewa (id := 52) (sh' := shP 45) (bc' := 0) (bs' := 0) (kd := 0) (N := 31) dX0_init_24 (by decide) wA_int (by decide) rfl (by decide) rfl rfl (fun a b r h => Nat.lt_of_lt_of_le (wP47 a b r h) (by decide)) (FrZ_at hz (by decide)) (fun j => oP47 _ j (by decide)) rfl (Nat.le_of_ble_eq_true rfl) (Nat.le_of_ble_eq_true rfl) rfl rfl ?_
  refine pR (R' := RP48) dX0_init_26 lfX0_18 (fun _ _ _ hq => by cases hq; exact Or.inr ⟨rfl, rfl⟩) (ci := 0) (f := 6) rfl (Or.inr ⟨_, rfl⟩) rfl ?_
  refine aX_aload_n dX0_init_29 rfl ?_
  refine aX_aload_n dX0_init_30 rfl ?_
  refine pR (R' := RP49) dX0_init_31 lfX0_21 (fun _ _ _ hq => by cases hq; exact Or.inr ⟨rfl, rfl⟩) (ci := 0) (f := 0) rfl (Or.inl ⟨_, rfl⟩) rfl ?_
  refine aX_aload_n dX0_init_34 rfl ?_
  refine aX_aload_n dX0_init_35 rfl ?_
  refine pR (R' := RP50) dX0_init_36 lfX0_25 (fun _ _ _ hq => by cases hq; exact Or.inr ⟨rfl, rfl⟩) (ci := 0) (f := 1) rfl (Or.inl ⟨_, rfl⟩) rfl ?_
  refine aX_aload_n dX0_init_39 rfl ?_
  refine aX_aload_n dX0_init_40 rfl ?_
  refine pR (R' := RP51) dX0_init_41 lfX0_29 (fun _ _ _ hq => by cases hq; exact Or.inr ⟨rfl, rfl⟩) (ci := 0) (f := 2) rfl (Or.inl ⟨_, rfl⟩) rfl ?_
  refine aX_aload_n dX0_init_44 rfl ?_
  refine aX_aload dX0_init_45 rfl ?_
  refine pR (R' := RP52) dX0_init_47 lfX0_33 (fun _ _ _ hq => by cases hq; exact Or.inr ⟨rfl, rfl⟩) (ci := 0) (f := 3) rfl (Or.inl ⟨_, rfl⟩) rfl ?_
  exact rV dX0_init_50 rfl (⟨rfl, rfl⟩)
set_option maxRecDepth 20000 in
set_option maxHeartbeats 8000000 in
theorem i_X7_init {I : Nat → Nat → Int32} {L : Nat → Nat → Int64} (hz : FrZ 54 I L) : aM mX7_init [.ref 53, .ref 16, .ref 39, .ref 41, .ref 9] (shP 46, I, L, RP53) (fun ans h' => ans = none ∧ h' = (shP 69, I, L, RP61)) := by
  refine aM_of plX7_init (Nat.le_of_ble_eq_true rfl) ?_
  refine aX_aload_n dX7_init_0 rfl ?_
  refine aX_objInit (st := []) dX7_init_1 loX7_3 wO2 wO3 (Nat.le_of_ble_eq_true rfl) (Nat.le_of_ble_eq_true rfl) ?_
  refine aX_aload_n dX7_init_4 rfl ?_
  refine aX_bipush (v := nI 20) dX7_init_5 (by decide) ?_
  refine aX_bipush (v := nI 20) dX7_init_7 (by decide) ?_
  refine nMulti (id := 54) (n := 20) (k := 20) (sh' := shP 67) (R' := RP54) (bc' := 2) (bs' := 40) dX7_init_9 lcX7_9 rfl rfl (fun a b r h => Nat.lt_of_lt_of_le (wP53 a b r h) (by decide)) (FrZ_at hz (by decide)) (fun a j h => oP53 a j (Nat.le_trans (by decide) h)) rfl rfl (Nat.le_of_ble_eq_true rfl) (Nat.le_of_ble_eq_true rfl) rfl rfl (by decide) (by decide) (by decide) (by decide) ?_
  refine pR (R' := RP55) dX7_init_13 lfX7_11 (fun _ _ _ hq => by cases hq; exact Or.inr ⟨rfl, rfl⟩) (ci := 7) (f := 7) rfl (Or.inr ⟨_, rfl⟩) rfl ?_
  refine aX_aload_n dX7_init_16 rfl ?_
  refine aX_bipush (v := nI 20) dX7_init_17 (by decide) ?_
  refine nNewa (id := 75) (sh' := shP 68) (bc' := 1) (bs' := 20) (kd := 3) (N := 20) dX7_init_19 (by decide) wA_long (by decide) rfl (by decide) rfl rfl (fun a b r h => Nat.lt_of_lt_of_le (wP55 a b r h) (by decide)) (FrZ_at hz (by decide)) (fun j => oP55 _ j (by decide)) rfl (Nat.le_of_ble_eq_true rfl) (Nat.le_of_ble_eq_true rfl) rfl rfl ?_
  refine pR (R' := RP56) dX7_init_21 lfX7_16 (fun _ _ _ hq => by cases hq; exact Or.inr ⟨rfl, rfl⟩) (ci := 7) (f := 8) rfl (Or.inr ⟨_, rfl⟩) rfl ?_
  refine aX_aload_n dX7_init_24 rfl ?_
  refine aX_bipush (v := nI 20) dX7_init_25 (by decide) ?_
  refine nNewa (id := 76) (sh' := shP 69) (bc' := 0) (bs' := 0) (kd := 0) (N := 20) dX7_init_27 (by decide) wA_int (by decide) rfl (by decide) rfl rfl (fun a b r h => Nat.lt_of_lt_of_le (wP56 a b r h) (by decide)) (FrZ_at hz (by decide)) (fun j => oP56 _ j (by decide)) rfl (Nat.le_of_ble_eq_true rfl) (Nat.le_of_ble_eq_true rfl) rfl rfl ?_
  refine pR (R' := RP57) dX7_init_29 lfX7_20 (fun _ _ _ hq => by cases hq; exact Or.inr ⟨rfl, rfl⟩) (ci := 7) (f := 9) rfl (Or.inr ⟨_, rfl⟩) rfl ?_
  refine aX_aload_n dX7_init_32 rfl ?_
  refine aX_aload_n dX7_init_33 rfl ?_
  refine pR (R' := RP58) dX7_init_34 lfX7_24 (fun _ _ _ hq => by cases hq; exact Or.inr ⟨rfl, rfl⟩) (ci := 7) (f := 0) rfl (Or.inl ⟨_, rfl⟩) rfl ?_
  refine aX_aload_n dX7_init_37 rfl ?_
  refine aX_aload_n dX7_init_38 rfl ?_
  refine pR (R' := RP59) dX7_init_39 lfX7_28 (fun _ _ _ hq => by cases hq; exact Or.inr ⟨rfl, rfl⟩) (ci := 7) (f := 1) rfl (Or.inl ⟨_, rfl⟩) rfl ?_
  refine aX_aload_n dX7_init_42 rfl ?_
  refine aX_aload_n dX7_init_43 rfl ?_
  refine pR (R' := RP60) dX7_init_44 lfX7_32 (fun _ _ _ hq => by cases hq; exact Or.inr ⟨rfl, rfl⟩) (ci := 7) (f := 2) rfl (Or.inl ⟨_, rfl⟩) rfl ?_
  refine aX_aload_n dX7_init_47 rfl ?_
  refine aX_aload dX7_init_48 rfl ?_
  refine pR (R' := RP61) dX7_init_50 lfX7_36 (fun _ _ _ hq => by cases hq; exact Or.inr ⟨rfl, rfl⟩) (ci := 7) (f := 3) rfl (Or.inr ⟨_, rfl⟩) rfl ?_
  exact rV dX7_init_53 rfl (⟨rfl, rfl⟩)
set_option maxRecDepth 20000 in
set_option maxHeartbeats 8000000 in
theorem i_X6_init {I : Nat → Nat → Int32} {L : Nat → Nat → Int64} (hz : FrZ 78 I L) : aM mX6_init [.ref 77, .ref 53] (shP 70, I, L, RP62) (fun ans h' => ans = none ∧ h' = (shP 151, I, L, RP115)) := by
  refine aM_of plX6_init (Nat.le_of_ble_eq_true rfl) ?_
  refine aX_aload_n dX6_init_0 rfl ?_
  refine aX_objInit (st := []) dX6_init_1 loX6_3 wO2 wO3 (Nat.le_of_ble_eq_true rfl) (Nat.le_of_ble_eq_true rfl) ?_
  refine aX_aload_n dX6_init_4 rfl ?_
  refine aX_bipush (v := nI 22) dX6_init_5 (by decide) ?_
  refine nNewq (id := 78) (sh' := shP 71) (bc' := 80) (bs' := 1034) (N := 22) dX6_init_7 lcX6_9 (by decide) rfl (by decide) rfl rfl (fun a b r h => Nat.lt_of_lt_of_le (wP62 a b r h) (by decide)) (FrZ_at hz (by decide)) (fun j => oP62 _ j (by decide)) rfl (Nat.le_of_ble_eq_true rfl) (Nat.le_of_ble_eq_true rfl) rfl rfl ?_
  refine pR (R' := RP63) dX6_init_10 lfX6_11 (fun _ _ _ hq => by cases hq; exact Or.inr ⟨rfl, rfl⟩) (ci := 6) (f := 1) rfl (Or.inr ⟨_, rfl⟩) rfl ?_
  refine aX_aload_n dX6_init_13 rfl ?_
  refine aX_bipush (v := nI 20) dX6_init_14 (by decide) ?_
  refine aX_bipush (v := nI 21) dX6_init_16 (by decide) ?_
  refine nMulti (id := 79) (n := 20) (k := 21) (sh' := shP 92) (R' := RP64) (bc' := 59) (bs' := 594) dX6_init_18 lcX6_17 rfl rfl (fun a b r h => Nat.lt_of_lt_of_le (wP63 a b r h) (by decide)) (FrZ_at hz (by decide)) (fun a j h => oP63 a j (Nat.le_trans (by decide) h)) rfl rfl (Nat.le_of_ble_eq_true rfl) (Nat.le_of_ble_eq_true rfl) rfl rfl (by decide) (by decide) (by decide) (by decide) ?_
  refine pR (R' := RP65) dX6_init_22 lfX6_19 (fun _ _ _ hq => by cases hq; exact Or.inr ⟨rfl, rfl⟩) (ci := 6) (f := 2) rfl (Or.inr ⟨_, rfl⟩) rfl ?_
  refine aX_aload_n dX6_init_25 rfl ?_
  refine aX_bipush (v := nI 11) dX6_init_26 (by decide) ?_
  refine aX_bipush (v := nI 22) dX6_init_28 (by decide) ?_
  refine nMulti (id := 100) (n := 11) (k := 22) (sh' := shP 104) (R' := RP66) (bc' := 47) (bs' := 341) dX6_init_30 lcX6_17 rfl rfl (fun a b r h => Nat.lt_of_lt_of_le (wP65 a b r h) (by decide)) (FrZ_at hz (by decide)) (fun a j h => oP65 a j (Nat.le_trans (by decide) h)) rfl rfl (Nat.le_of_ble_eq_true rfl) (Nat.le_of_ble_eq_true rfl) rfl rfl (by decide) (by decide) (by decide) (by decide) ?_
  refine pR (R' := RP67) dX6_init_34 lfX6_22 (fun _ _ _ hq => by cases hq; exact Or.inr ⟨rfl, rfl⟩) (ci := 6) (f := 3) rfl (Or.inr ⟨_, rfl⟩) rfl ?_
  refine aX_aload_n dX6_init_37 rfl ?_
  refine aX_bipush (v := nI 11) dX6_init_38 (by decide) ?_
  refine nNewa (id := 112) (sh' := shP 105) (bc' := 46) (bs' := 330) (kd := 3) (N := 11) dX6_init_40 (by decide) wA_long (by decide) rfl (by decide) rfl rfl (fun a b r h => Nat.lt_of_lt_of_le (wP67 a b r h) (by decide)) (FrZ_at hz (by decide)) (fun j => oP67 _ j (by decide)) rfl (Nat.le_of_ble_eq_true rfl) (Nat.le_of_ble_eq_true rfl) rfl rfl ?_
  refine pR (R' := RP68) dX6_init_42 lfX6_25 (fun _ _ _ hq => by cases hq; exact Or.inr ⟨rfl, rfl⟩) (ci := 6) (f := 4) rfl (Or.inr ⟨_, rfl⟩) rfl ?_
  refine aX_aload_n dX6_init_45 rfl ?_
  refine aX_bipush (v := nI 11) dX6_init_46 (by decide) ?_
  refine nNewa (id := 113) (sh' := shP 106) (bc' := 45) (bs' := 319) (kd := 3) (N := 11) dX6_init_48 (by decide) wA_long (by decide) rfl (by decide) rfl rfl (fun a b r h => Nat.lt_of_lt_of_le (wP68 a b r h) (by decide)) (FrZ_at hz (by decide)) (fun j => oP68 _ j (by decide)) rfl (Nat.le_of_ble_eq_true rfl) (Nat.le_of_ble_eq_true rfl) rfl rfl ?_
  refine pR (R' := RP69) dX6_init_50 lfX6_29 (fun _ _ _ hq => by cases hq; exact Or.inr ⟨rfl, rfl⟩) (ci := 6) (f := 5) rfl (Or.inr ⟨_, rfl⟩) rfl ?_
  refine aX_aload_n dX6_init_53 rfl ?_
  refine aX_bipush (v := nI 11) dX6_init_54 (by decide) ?_
  refine nNewa (id := 114) (sh' := shP 107) (bc' := 44) (bs' := 308) (kd := 3) (N := 11) dX6_init_56 (by decide) wA_long (by decide) rfl (by decide) rfl rfl (fun a b r h => Nat.lt_of_lt_of_le (wP69 a b r h) (by decide)) (FrZ_at hz (by decide)) (fun j => oP69 _ j (by decide)) rfl (Nat.le_of_ble_eq_true rfl) (Nat.le_of_ble_eq_true rfl) rfl rfl ?_
  refine pR (R' := RP70) dX6_init_58 lfX6_32 (fun _ _ _ hq => by cases hq; exact Or.inr ⟨rfl, rfl⟩) (ci := 6) (f := 6) rfl (Or.inr ⟨_, rfl⟩) rfl ?_
  refine aX_aload_n dX6_init_61 rfl ?_
  refine aX_aload_n dX6_init_62 rfl ?_
  refine pR (R' := RP71) dX6_init_63 lfX6_35 (fun _ _ _ hq => by cases hq; exact Or.inr ⟨rfl, rfl⟩) (ci := 6) (f := 0) rfl (Or.inl ⟨_, rfl⟩) rfl ?_
  refine aX_iconst (v := nI 0) dX6_init_66 (by decide) ?_
  refine aX_istore_n (lv' := [(0, .ref 77), (1, .ref 53), (2, .int (nI (0)))]) dX6_init_67 (by decide) rfl ?_
  refine aX_iload_n dX6_init_68 rfl ?_
  refine aX_bipush (v := nI 22) dX6_init_69 (by decide) ?_
  refine nGe (tgt := 93) dX6_init_71 (by decide) (by decide) (by decide) (fun h => absurd h (by decide)) (fun _ => ?_)
  refine aX_aload_n dX6_init_74 rfl ?_
  refine aX_get (v := .ref 78) dX6_init_75 lfX6_11 (ci := 6) (z := 0) rfl rfl ?_
  refine aX_iload_n dX6_init_78 rfl ?_
  refine nNew (id := 115) (sh' := shP 108) (bc' := 43) (bs' := 306) (ci := 9) dX6_init_79 lnX6_9 rfl rfl (fun a b r h => Nat.lt_of_lt_of_le (wP71 a b r h) (by decide)) (FrZ_at hz (by decide)) (fun j => oP71 _ j (by decide)) rfl (Nat.le_of_ble_eq_true rfl) (Nat.le_of_ble_eq_true rfl) rfl rfl ?_
  refine aX_dup dX6_init_82 rfl ?_
  refine nCallI (As := []) (st := [.ref 115, .int (nI (0)), .ref 78]) (bc' := 42) (bs' := 294) dX6_init_83 wmX9_init (Or.inr lmX6_39) wiX9_init rfl rfl pnX9_init ⟨by decide, by decide⟩ rfl rfl (Nat.le_of_ble_eq_true rfl) aEok0 rfl (i_Whole (id := 116) (o := 115) (z := 0) rfl rfl (fun a b r h => Nat.lt_of_lt_of_le (wP71 a b r h) (by decide)) (FrZ_at hz (by decide)) (fun j => oP71 _ j (by decide)) (by decide)) (Nat.le_of_ble_eq_true rfl) (Nat.le_of_ble_eq_true rfl) rfl rfl (fun ans' h' hq9 => ?_)
  obtain ⟨rfl, rfl⟩ := hq9
  refine ⟨rfl, ?_⟩
  refine aX_heap (h' := (shP 109, I, L, RP72)) rfl ?_
  refine nAast (R' := RP73) (n := 22) (z := 0) dX6_init_86 rfl (by decide) (by decide) rfl rfl ?_
  refine nInc (lv' := [(0, .ref 77), (1, .ref 53), (2, .int (nI (1)))]) dX6_init_87 rfl rfl (by decide) rfl ?_
  refine aX_goto (tgt := 68) dX6_init_90 (by decide) ?_
  refine aX_iload_n dX6_init_68 rfl ?_
  refine aX_bipush (v := nI 22) dX6_init_69 (by decide) ?_
  refine nGe (tgt := 93) dX6_init_71 (by decide) (by decide) (by decide) (fun h => absurd h (by decide)) (fun _ => ?_)
  refine aX_aload_n dX6_init_74 rfl ?_
  refine aX_get (v := .ref 78) dX6_init_75 lfX6_11 (ci := 6) (z := 0) rfl rfl ?_
  refine aX_iload_n dX6_init_78 rfl ?_
  refine nNew (id := 117) (sh' := shP 110) (bc' := 41) (bs' := 292) (ci := 9) dX6_init_79 lnX6_9 rfl rfl (fun a b r h => Nat.lt_of_lt_of_le (wP73 a b r h) (by decide)) (FrZ_at hz (by decide)) (fun j => oP73 _ j (by decide)) rfl (Nat.le_of_ble_eq_true rfl) (Nat.le_of_ble_eq_true rfl) rfl rfl ?_
  refine aX_dup dX6_init_82 rfl ?_
  refine nCallI (As := []) (st := [.ref 117, .int (nI (1)), .ref 78]) (bc' := 40) (bs' := 280) dX6_init_83 wmX9_init (Or.inr lmX6_39) wiX9_init rfl rfl pnX9_init ⟨by decide, by decide⟩ rfl rfl (Nat.le_of_ble_eq_true rfl) aEok0 rfl (i_Whole (id := 118) (o := 117) (z := 0) rfl rfl (fun a b r h => Nat.lt_of_lt_of_le (wP73 a b r h) (by decide)) (FrZ_at hz (by decide)) (fun j => oP73 _ j (by decide)) (by decide)) (Nat.le_of_ble_eq_true rfl) (Nat.le_of_ble_eq_true rfl) rfl rfl (fun ans' h' hq9 => ?_)
  obtain ⟨rfl, rfl⟩ := hq9
  refine ⟨rfl, ?_⟩
  refine aX_heap (h' := (shP 111, I, L, RP74)) rfl ?_
  refine nAast (R' := RP75) (n := 22) (z := 0) dX6_init_86 rfl (by decide) (by decide) rfl rfl ?_
  refine nInc (lv' := [(0, .ref 77), (1, .ref 53), (2, .int (nI (2)))]) dX6_init_87 rfl rfl (by decide) rfl ?_
  refine aX_goto (tgt := 68) dX6_init_90 (by decide) ?_
  refine aX_iload_n dX6_init_68 rfl ?_
  refine aX_bipush (v := nI 22) dX6_init_69 (by decide) ?_
  refine nGe (tgt := 93) dX6_init_71 (by decide) (by decide) (by decide) (fun h => absurd h (by decide)) (fun _ => ?_)
  refine aX_aload_n dX6_init_74 rfl ?_
  refine aX_get (v := .ref 78) dX6_init_75 lfX6_11 (ci := 6) (z := 0) rfl rfl ?_
  refine aX_iload_n dX6_init_78 rfl ?_
  refine nNew (id := 119) (sh' := shP 112) (bc' := 39) (bs' := 278) (ci := 9) dX6_init_79 lnX6_9 rfl rfl (fun a b r h => Nat.lt_of_lt_of_le (wP75 a b r h) (by decide)) (FrZ_at hz (by decide)) (fun j => oP75 _ j (by decide)) rfl (Nat.le_of_ble_eq_true rfl) (Nat.le_of_ble_eq_true rfl) rfl rfl ?_
  refine aX_dup dX6_init_82 rfl ?_
  refine nCallI (As := []) (st := [.ref 119, .int (nI (2)), .ref 78]) (bc' := 38) (bs' := 266) dX6_init_83 wmX9_init (Or.inr lmX6_39) wiX9_init rfl rfl pnX9_init ⟨by decide, by decide⟩ rfl rfl (Nat.le_of_ble_eq_true rfl) aEok0 rfl (i_Whole (id := 120) (o := 119) (z := 0) rfl rfl (fun a b r h => Nat.lt_of_lt_of_le (wP75 a b r h) (by decide)) (FrZ_at hz (by decide)) (fun j => oP75 _ j (by decide)) (by decide)) (Nat.le_of_ble_eq_true rfl) (Nat.le_of_ble_eq_true rfl) rfl rfl (fun ans' h' hq9 => ?_)
  obtain ⟨rfl, rfl⟩ := hq9
  refine ⟨rfl, ?_⟩
  refine aX_heap (h' := (shP 113, I, L, RP76)) rfl ?_
  refine nAast (R' := RP77) (n := 22) (z := 0) dX6_init_86 rfl (by decide) (by decide) rfl rfl ?_
  refine nInc (lv' := [(0, .ref 77), (1, .ref 53), (2, .int (nI (3)))]) dX6_init_87 rfl rfl (by decide) rfl ?_
  refine aX_goto (tgt := 68) dX6_init_90 (by decide) ?_
  refine aX_iload_n dX6_init_68 rfl ?_
  refine aX_bipush (v := nI 22) dX6_init_69 (by decide) ?_
  refine nGe (tgt := 93) dX6_init_71 (by decide) (by decide) (by decide) (fun h => absurd h (by decide)) (fun _ => ?_)
  refine aX_aload_n dX6_init_74 rfl ?_
  refine aX_get (v := .ref 78) dX6_init_75 lfX6_11 (ci := 6) (z := 0) rfl rfl ?_
  refine aX_iload_n dX6_init_78 rfl ?_
  refine nNew (id := 121) (sh' := shP 114) (bc' := 37) (bs' := 264) (ci := 9) dX6_init_79 lnX6_9 rfl rfl (fun a b r h => Nat.lt_of_lt_of_le (wP77 a b r h) (by decide)) (FrZ_at hz (by decide)) (fun j => oP77 _ j (by decide)) rfl (Nat.le_of_ble_eq_true rfl) (Nat.le_of_ble_eq_true rfl) rfl rfl ?_
  refine aX_dup dX6_init_82 rfl ?_
  refine nCallI (As := []) (st := [.ref 121, .int (nI (3)), .ref 78]) (bc' := 36) (bs' := 252) dX6_init_83 wmX9_init (Or.inr lmX6_39) wiX9_init rfl rfl pnX9_init ⟨by decide, by decide⟩ rfl rfl (Nat.le_of_ble_eq_true rfl) aEok0 rfl (i_Whole (id := 122) (o := 121) (z := 0) rfl rfl (fun a b r h => Nat.lt_of_lt_of_le (wP77 a b r h) (by decide)) (FrZ_at hz (by decide)) (fun j => oP77 _ j (by decide)) (by decide)) (Nat.le_of_ble_eq_true rfl) (Nat.le_of_ble_eq_true rfl) rfl rfl (fun ans' h' hq9 => ?_)
  obtain ⟨rfl, rfl⟩ := hq9
  refine ⟨rfl, ?_⟩
  refine aX_heap (h' := (shP 115, I, L, RP78)) rfl ?_
  refine nAast (R' := RP79) (n := 22) (z := 0) dX6_init_86 rfl (by decide) (by decide) rfl rfl ?_
  refine nInc (lv' := [(0, .ref 77), (1, .ref 53), (2, .int (nI (4)))]) dX6_init_87 rfl rfl (by decide) rfl ?_
  refine aX_goto (tgt := 68) dX6_init_90 (by decide) ?_
  refine aX_iload_n dX6_init_68 rfl ?_
  refine aX_bipush (v := nI 22) dX6_init_69 (by decide) ?_
  refine nGe (tgt := 93) dX6_init_71 (by decide) (by decide) (by decide) (fun h => absurd h (by decide)) (fun _ => ?_)
  refine aX_aload_n dX6_init_74 rfl ?_
  refine aX_get (v := .ref 78) dX6_init_75 lfX6_11 (ci := 6) (z := 0) rfl rfl ?_
  refine aX_iload_n dX6_init_78 rfl ?_
  refine nNew (id := 123) (sh' := shP 116) (bc' := 35) (bs' := 250) (ci := 9) dX6_init_79 lnX6_9 rfl rfl (fun a b r h => Nat.lt_of_lt_of_le (wP79 a b r h) (by decide)) (FrZ_at hz (by decide)) (fun j => oP79 _ j (by decide)) rfl (Nat.le_of_ble_eq_true rfl) (Nat.le_of_ble_eq_true rfl) rfl rfl ?_
  refine aX_dup dX6_init_82 rfl ?_
  refine nCallI (As := []) (st := [.ref 123, .int (nI (4)), .ref 78]) (bc' := 34) (bs' := 238) dX6_init_83 wmX9_init (Or.inr lmX6_39) wiX9_init rfl rfl pnX9_init ⟨by decide, by decide⟩ rfl rfl (Nat.le_of_ble_eq_true rfl) aEok0 rfl (i_Whole (id := 124) (o := 123) (z := 0) rfl rfl (fun a b r h => Nat.lt_of_lt_of_le (wP79 a b r h) (by decide)) (FrZ_at hz (by decide)) (fun j => oP79 _ j (by decide)) (by decide)) (Nat.le_of_ble_eq_true rfl) (Nat.le_of_ble_eq_true rfl) rfl rfl (fun ans' h' hq9 => ?_)
  obtain ⟨rfl, rfl⟩ := hq9
  refine ⟨rfl, ?_⟩
  refine aX_heap (h' := (shP 117, I, L, RP80)) rfl ?_
  refine nAast (R' := RP81) (n := 22) (z := 0) dX6_init_86 rfl (by decide) (by decide) rfl rfl ?_
  refine nInc (lv' := [(0, .ref 77), (1, .ref 53), (2, .int (nI (5)))]) dX6_init_87 rfl rfl (by decide) rfl ?_
  refine aX_goto (tgt := 68) dX6_init_90 (by decide) ?_
  refine aX_iload_n dX6_init_68 rfl ?_
  refine aX_bipush (v := nI 22) dX6_init_69 (by decide) ?_
  refine nGe (tgt := 93) dX6_init_71 (by decide) (by decide) (by decide) (fun h => absurd h (by decide)) (fun _ => ?_)
  refine aX_aload_n dX6_init_74 rfl ?_
  refine aX_get (v := .ref 78) dX6_init_75 lfX6_11 (ci := 6) (z := 0) rfl rfl ?_
  refine aX_iload_n dX6_init_78 rfl ?_
  refine nNew (id := 125) (sh' := shP 118) (bc' := 33) (bs' := 236) (ci := 9) dX6_init_79 lnX6_9 rfl rfl (fun a b r h => Nat.lt_of_lt_of_le (wP81 a b r h) (by decide)) (FrZ_at hz (by decide)) (fun j => oP81 _ j (by decide)) rfl (Nat.le_of_ble_eq_true rfl) (Nat.le_of_ble_eq_true rfl) rfl rfl ?_
  refine aX_dup dX6_init_82 rfl ?_
  refine nCallI (As := []) (st := [.ref 125, .int (nI (5)), .ref 78]) (bc' := 32) (bs' := 224) dX6_init_83 wmX9_init (Or.inr lmX6_39) wiX9_init rfl rfl pnX9_init ⟨by decide, by decide⟩ rfl rfl (Nat.le_of_ble_eq_true rfl) aEok0 rfl (i_Whole (id := 126) (o := 125) (z := 0) rfl rfl (fun a b r h => Nat.lt_of_lt_of_le (wP81 a b r h) (by decide)) (FrZ_at hz (by decide)) (fun j => oP81 _ j (by decide)) (by decide)) (Nat.le_of_ble_eq_true rfl) (Nat.le_of_ble_eq_true rfl) rfl rfl (fun ans' h' hq9 => ?_)
  obtain ⟨rfl, rfl⟩ := hq9
  refine ⟨rfl, ?_⟩
  refine aX_heap (h' := (shP 119, I, L, RP82)) rfl ?_
  refine nAast (R' := RP83) (n := 22) (z := 0) dX6_init_86 rfl (by decide) (by decide) rfl rfl ?_
  refine nInc (lv' := [(0, .ref 77), (1, .ref 53), (2, .int (nI (6)))]) dX6_init_87 rfl rfl (by decide) rfl ?_
  refine aX_goto (tgt := 68) dX6_init_90 (by decide) ?_
  refine aX_iload_n dX6_init_68 rfl ?_
  refine aX_bipush (v := nI 22) dX6_init_69 (by decide) ?_
  refine nGe (tgt := 93) dX6_init_71 (by decide) (by decide) (by decide) (fun h => absurd h (by decide)) (fun _ => ?_)
  refine aX_aload_n dX6_init_74 rfl ?_
  refine aX_get (v := .ref 78) dX6_init_75 lfX6_11 (ci := 6) (z := 0) rfl rfl ?_
  refine aX_iload_n dX6_init_78 rfl ?_
  refine nNew (id := 127) (sh' := shP 120) (bc' := 31) (bs' := 222) (ci := 9) dX6_init_79 lnX6_9 rfl rfl (fun a b r h => Nat.lt_of_lt_of_le (wP83 a b r h) (by decide)) (FrZ_at hz (by decide)) (fun j => oP83 _ j (by decide)) rfl (Nat.le_of_ble_eq_true rfl) (Nat.le_of_ble_eq_true rfl) rfl rfl ?_
  refine aX_dup dX6_init_82 rfl ?_
  refine nCallI (As := []) (st := [.ref 127, .int (nI (6)), .ref 78]) (bc' := 30) (bs' := 210) dX6_init_83 wmX9_init (Or.inr lmX6_39) wiX9_init rfl rfl pnX9_init ⟨by decide, by decide⟩ rfl rfl (Nat.le_of_ble_eq_true rfl) aEok0 rfl (i_Whole (id := 128) (o := 127) (z := 0) rfl rfl (fun a b r h => Nat.lt_of_lt_of_le (wP83 a b r h) (by decide)) (FrZ_at hz (by decide)) (fun j => oP83 _ j (by decide)) (by decide)) (Nat.le_of_ble_eq_true rfl) (Nat.le_of_ble_eq_true rfl) rfl rfl (fun ans' h' hq9 => ?_)
  obtain ⟨rfl, rfl⟩ := hq9
  refine ⟨rfl, ?_⟩
  refine aX_heap (h' := (shP 121, I, L, RP84)) rfl ?_
  refine nAast (R' := RP85) (n := 22) (z := 0) dX6_init_86 rfl (by decide) (by decide) rfl rfl ?_
  refine nInc (lv' := [(0, .ref 77), (1, .ref 53), (2, .int (nI (7)))]) dX6_init_87 rfl rfl (by decide) rfl ?_
  refine aX_goto (tgt := 68) dX6_init_90 (by decide) ?_
  refine aX_iload_n dX6_init_68 rfl ?_
  refine aX_bipush (v := nI 22) dX6_init_69 (by decide) ?_
  refine nGe (tgt := 93) dX6_init_71 (by decide) (by decide) (by decide) (fun h => absurd h (by decide)) (fun _ => ?_)
  refine aX_aload_n dX6_init_74 rfl ?_
  refine aX_get (v := .ref 78) dX6_init_75 lfX6_11 (ci := 6) (z := 0) rfl rfl ?_
  refine aX_iload_n dX6_init_78 rfl ?_
  refine nNew (id := 129) (sh' := shP 122) (bc' := 29) (bs' := 208) (ci := 9) dX6_init_79 lnX6_9 rfl rfl (fun a b r h => Nat.lt_of_lt_of_le (wP85 a b r h) (by decide)) (FrZ_at hz (by decide)) (fun j => oP85 _ j (by decide)) rfl (Nat.le_of_ble_eq_true rfl) (Nat.le_of_ble_eq_true rfl) rfl rfl ?_
  refine aX_dup dX6_init_82 rfl ?_
  refine nCallI (As := []) (st := [.ref 129, .int (nI (7)), .ref 78]) (bc' := 28) (bs' := 196) dX6_init_83 wmX9_init (Or.inr lmX6_39) wiX9_init rfl rfl pnX9_init ⟨by decide, by decide⟩ rfl rfl (Nat.le_of_ble_eq_true rfl) aEok0 rfl (i_Whole (id := 130) (o := 129) (z := 0) rfl rfl (fun a b r h => Nat.lt_of_lt_of_le (wP85 a b r h) (by decide)) (FrZ_at hz (by decide)) (fun j => oP85 _ j (by decide)) (by decide)) (Nat.le_of_ble_eq_true rfl) (Nat.le_of_ble_eq_true rfl) rfl rfl (fun ans' h' hq9 => ?_)
  obtain ⟨rfl, rfl⟩ := hq9
  refine ⟨rfl, ?_⟩
  refine aX_heap (h' := (shP 123, I, L, RP86)) rfl ?_
  refine nAast (R' := RP87) (n := 22) (z := 0) dX6_init_86 rfl (by decide) (by decide) rfl rfl ?_
  refine nInc (lv' := [(0, .ref 77), (1, .ref 53), (2, .int (nI (8)))]) dX6_init_87 rfl rfl (by decide) rfl ?_
  refine aX_goto (tgt := 68) dX6_init_90 (by decide) ?_
  refine aX_iload_n dX6_init_68 rfl ?_
  refine aX_bipush (v := nI 22) dX6_init_69 (by decide) ?_
  refine nGe (tgt := 93) dX6_init_71 (by decide) (by decide) (by decide) (fun h => absurd h (by decide)) (fun _ => ?_)
  refine aX_aload_n dX6_init_74 rfl ?_
  refine aX_get (v := .ref 78) dX6_init_75 lfX6_11 (ci := 6) (z := 0) rfl rfl ?_
  refine aX_iload_n dX6_init_78 rfl ?_
  refine nNew (id := 131) (sh' := shP 124) (bc' := 27) (bs' := 194) (ci := 9) dX6_init_79 lnX6_9 rfl rfl (fun a b r h => Nat.lt_of_lt_of_le (wP87 a b r h) (by decide)) (FrZ_at hz (by decide)) (fun j => oP87 _ j (by decide)) rfl (Nat.le_of_ble_eq_true rfl) (Nat.le_of_ble_eq_true rfl) rfl rfl ?_
  refine aX_dup dX6_init_82 rfl ?_
  refine nCallI (As := []) (st := [.ref 131, .int (nI (8)), .ref 78]) (bc' := 26) (bs' := 182) dX6_init_83 wmX9_init (Or.inr lmX6_39) wiX9_init rfl rfl pnX9_init ⟨by decide, by decide⟩ rfl rfl (Nat.le_of_ble_eq_true rfl) aEok0 rfl (i_Whole (id := 132) (o := 131) (z := 0) rfl rfl (fun a b r h => Nat.lt_of_lt_of_le (wP87 a b r h) (by decide)) (FrZ_at hz (by decide)) (fun j => oP87 _ j (by decide)) (by decide)) (Nat.le_of_ble_eq_true rfl) (Nat.le_of_ble_eq_true rfl) rfl rfl (fun ans' h' hq9 => ?_)
  obtain ⟨rfl, rfl⟩ := hq9
  refine ⟨rfl, ?_⟩
  refine aX_heap (h' := (shP 125, I, L, RP88)) rfl ?_
  refine nAast (R' := RP89) (n := 22) (z := 0) dX6_init_86 rfl (by decide) (by decide) rfl rfl ?_
  refine nInc (lv' := [(0, .ref 77), (1, .ref 53), (2, .int (nI (9)))]) dX6_init_87 rfl rfl (by decide) rfl ?_
  refine aX_goto (tgt := 68) dX6_init_90 (by decide) ?_
  refine aX_iload_n dX6_init_68 rfl ?_
  refine aX_bipush (v := nI 22) dX6_init_69 (by decide) ?_
  refine nGe (tgt := 93) dX6_init_71 (by decide) (by decide) (by decide) (fun h => absurd h (by decide)) (fun _ => ?_)
  refine aX_aload_n dX6_init_74 rfl ?_
  refine aX_get (v := .ref 78) dX6_init_75 lfX6_11 (ci := 6) (z := 0) rfl rfl ?_
  refine aX_iload_n dX6_init_78 rfl ?_
  refine nNew (id := 133) (sh' := shP 126) (bc' := 25) (bs' := 180) (ci := 9) dX6_init_79 lnX6_9 rfl rfl (fun a b r h => Nat.lt_of_lt_of_le (wP89 a b r h) (by decide)) (FrZ_at hz (by decide)) (fun j => oP89 _ j (by decide)) rfl (Nat.le_of_ble_eq_true rfl) (Nat.le_of_ble_eq_true rfl) rfl rfl ?_
  refine aX_dup dX6_init_82 rfl ?_
  refine nCallI (As := []) (st := [.ref 133, .int (nI (9)), .ref 78]) (bc' := 24) (bs' := 168) dX6_init_83 wmX9_init (Or.inr lmX6_39) wiX9_init rfl rfl pnX9_init ⟨by decide, by decide⟩ rfl rfl (Nat.le_of_ble_eq_true rfl) aEok0 rfl (i_Whole (id := 134) (o := 133) (z := 0) rfl rfl (fun a b r h => Nat.lt_of_lt_of_le (wP89 a b r h) (by decide)) (FrZ_at hz (by decide)) (fun j => oP89 _ j (by decide)) (by decide)) (Nat.le_of_ble_eq_true rfl) (Nat.le_of_ble_eq_true rfl) rfl rfl (fun ans' h' hq9 => ?_)
  obtain ⟨rfl, rfl⟩ := hq9
  refine ⟨rfl, ?_⟩
  refine aX_heap (h' := (shP 127, I, L, RP90)) rfl ?_
  refine nAast (R' := RP91) (n := 22) (z := 0) dX6_init_86 rfl (by decide) (by decide) rfl rfl ?_
  refine nInc (lv' := [(0, .ref 77), (1, .ref 53), (2, .int (nI (10)))]) dX6_init_87 rfl rfl (by decide) rfl ?_
  refine aX_goto (tgt := 68) dX6_init_90 (by decide) ?_
  refine aX_iload_n dX6_init_68 rfl ?_
  refine aX_bipush (v := nI 22) dX6_init_69 (by decide) ?_
  refine nGe (tgt := 93) dX6_init_71 (by decide) (by decide) (by decide) (fun h => absurd h (by decide)) (fun _ => ?_)
  refine aX_aload_n dX6_init_74 rfl ?_
  refine aX_get (v := .ref 78) dX6_init_75 lfX6_11 (ci := 6) (z := 0) rfl rfl ?_
  refine aX_iload_n dX6_init_78 rfl ?_
  refine nNew (id := 135) (sh' := shP 128) (bc' := 23) (bs' := 166) (ci := 9) dX6_init_79 lnX6_9 rfl rfl (fun a b r h => Nat.lt_of_lt_of_le (wP91 a b r h) (by decide)) (FrZ_at hz (by decide)) (fun j => oP91 _ j (by decide)) rfl (Nat.le_of_ble_eq_true rfl) (Nat.le_of_ble_eq_true rfl) rfl rfl ?_
  refine aX_dup dX6_init_82 rfl ?_
  refine nCallI (As := []) (st := [.ref 135, .int (nI (10)), .ref 78]) (bc' := 22) (bs' := 154) dX6_init_83 wmX9_init (Or.inr lmX6_39) wiX9_init rfl rfl pnX9_init ⟨by decide, by decide⟩ rfl rfl (Nat.le_of_ble_eq_true rfl) aEok0 rfl (i_Whole (id := 136) (o := 135) (z := 0) rfl rfl (fun a b r h => Nat.lt_of_lt_of_le (wP91 a b r h) (by decide)) (FrZ_at hz (by decide)) (fun j => oP91 _ j (by decide)) (by decide)) (Nat.le_of_ble_eq_true rfl) (Nat.le_of_ble_eq_true rfl) rfl rfl (fun ans' h' hq9 => ?_)
  obtain ⟨rfl, rfl⟩ := hq9
  refine ⟨rfl, ?_⟩
  refine aX_heap (h' := (shP 129, I, L, RP92)) rfl ?_
  refine nAast (R' := RP93) (n := 22) (z := 0) dX6_init_86 rfl (by decide) (by decide) rfl rfl ?_
  refine nInc (lv' := [(0, .ref 77), (1, .ref 53), (2, .int (nI (11)))]) dX6_init_87 rfl rfl (by decide) rfl ?_
  refine aX_goto (tgt := 68) dX6_init_90 (by decide) ?_
  refine aX_iload_n dX6_init_68 rfl ?_
  refine aX_bipush (v := nI 22) dX6_init_69 (by decide) ?_
  refine nGe (tgt := 93) dX6_init_71 (by decide) (by decide) (by decide) (fun h => absurd h (by decide)) (fun _ => ?_)
  refine aX_aload_n dX6_init_74 rfl ?_
  refine aX_get (v := .ref 78) dX6_init_75 lfX6_11 (ci := 6) (z := 0) rfl rfl ?_
  refine aX_iload_n dX6_init_78 rfl ?_
  refine nNew (id := 137) (sh' := shP 130) (bc' := 21) (bs' := 152) (ci := 9) dX6_init_79 lnX6_9 rfl rfl (fun a b r h => Nat.lt_of_lt_of_le (wP93 a b r h) (by decide)) (FrZ_at hz (by decide)) (fun j => oP93 _ j (by decide)) rfl (Nat.le_of_ble_eq_true rfl) (Nat.le_of_ble_eq_true rfl) rfl rfl ?_
  refine aX_dup dX6_init_82 rfl ?_
  refine nCallI (As := []) (st := [.ref 137, .int (nI (11)), .ref 78]) (bc' := 20) (bs' := 140) dX6_init_83 wmX9_init (Or.inr lmX6_39) wiX9_init rfl rfl pnX9_init ⟨by decide, by decide⟩ rfl rfl (Nat.le_of_ble_eq_true rfl) aEok0 rfl (i_Whole (id := 138) (o := 137) (z := 0) rfl rfl (fun a b r h => Nat.lt_of_lt_of_le (wP93 a b r h) (by decide)) (FrZ_at hz (by decide)) (fun j => oP93 _ j (by decide)) (by decide)) (Nat.le_of_ble_eq_true rfl) (Nat.le_of_ble_eq_true rfl) rfl rfl (fun ans' h' hq9 => ?_)
  obtain ⟨rfl, rfl⟩ := hq9
  refine ⟨rfl, ?_⟩
  refine aX_heap (h' := (shP 131, I, L, RP94)) rfl ?_
  refine nAast (R' := RP95) (n := 22) (z := 0) dX6_init_86 rfl (by decide) (by decide) rfl rfl ?_
  refine nInc (lv' := [(0, .ref 77), (1, .ref 53), (2, .int (nI (12)))]) dX6_init_87 rfl rfl (by decide) rfl ?_
  refine aX_goto (tgt := 68) dX6_init_90 (by decide) ?_
  refine aX_iload_n dX6_init_68 rfl ?_
  refine aX_bipush (v := nI 22) dX6_init_69 (by decide) ?_
  refine nGe (tgt := 93) dX6_init_71 (by decide) (by decide) (by decide) (fun h => absurd h (by decide)) (fun _ => ?_)
  refine aX_aload_n dX6_init_74 rfl ?_
  refine aX_get (v := .ref 78) dX6_init_75 lfX6_11 (ci := 6) (z := 0) rfl rfl ?_
  refine aX_iload_n dX6_init_78 rfl ?_
  refine nNew (id := 139) (sh' := shP 132) (bc' := 19) (bs' := 138) (ci := 9) dX6_init_79 lnX6_9 rfl rfl (fun a b r h => Nat.lt_of_lt_of_le (wP95 a b r h) (by decide)) (FrZ_at hz (by decide)) (fun j => oP95 _ j (by decide)) rfl (Nat.le_of_ble_eq_true rfl) (Nat.le_of_ble_eq_true rfl) rfl rfl ?_
  refine aX_dup dX6_init_82 rfl ?_
  refine nCallI (As := []) (st := [.ref 139, .int (nI (12)), .ref 78]) (bc' := 18) (bs' := 126) dX6_init_83 wmX9_init (Or.inr lmX6_39) wiX9_init rfl rfl pnX9_init ⟨by decide, by decide⟩ rfl rfl (Nat.le_of_ble_eq_true rfl) aEok0 rfl (i_Whole (id := 140) (o := 139) (z := 0) rfl rfl (fun a b r h => Nat.lt_of_lt_of_le (wP95 a b r h) (by decide)) (FrZ_at hz (by decide)) (fun j => oP95 _ j (by decide)) (by decide)) (Nat.le_of_ble_eq_true rfl) (Nat.le_of_ble_eq_true rfl) rfl rfl (fun ans' h' hq9 => ?_)
  obtain ⟨rfl, rfl⟩ := hq9
  refine ⟨rfl, ?_⟩
  refine aX_heap (h' := (shP 133, I, L, RP96)) rfl ?_
  refine nAast (R' := RP97) (n := 22) (z := 0) dX6_init_86 rfl (by decide) (by decide) rfl rfl ?_
  refine nInc (lv' := [(0, .ref 77), (1, .ref 53), (2, .int (nI (13)))]) dX6_init_87 rfl rfl (by decide) rfl ?_
  refine aX_goto (tgt := 68) dX6_init_90 (by decide) ?_
  refine aX_iload_n dX6_init_68 rfl ?_
  refine aX_bipush (v := nI 22) dX6_init_69 (by decide) ?_
  refine nGe (tgt := 93) dX6_init_71 (by decide) (by decide) (by decide) (fun h => absurd h (by decide)) (fun _ => ?_)
  refine aX_aload_n dX6_init_74 rfl ?_
  refine aX_get (v := .ref 78) dX6_init_75 lfX6_11 (ci := 6) (z := 0) rfl rfl ?_
  refine aX_iload_n dX6_init_78 rfl ?_
  refine nNew (id := 141) (sh' := shP 134) (bc' := 17) (bs' := 124) (ci := 9) dX6_init_79 lnX6_9 rfl rfl (fun a b r h => Nat.lt_of_lt_of_le (wP97 a b r h) (by decide)) (FrZ_at hz (by decide)) (fun j => oP97 _ j (by decide)) rfl (Nat.le_of_ble_eq_true rfl) (Nat.le_of_ble_eq_true rfl) rfl rfl ?_
  refine aX_dup dX6_init_82 rfl ?_
  refine nCallI (As := []) (st := [.ref 141, .int (nI (13)), .ref 78]) (bc' := 16) (bs' := 112) dX6_init_83 wmX9_init (Or.inr lmX6_39) wiX9_init rfl rfl pnX9_init ⟨by decide, by decide⟩ rfl rfl (Nat.le_of_ble_eq_true rfl) aEok0 rfl (i_Whole (id := 142) (o := 141) (z := 0) rfl rfl (fun a b r h => Nat.lt_of_lt_of_le (wP97 a b r h) (by decide)) (FrZ_at hz (by decide)) (fun j => oP97 _ j (by decide)) (by decide)) (Nat.le_of_ble_eq_true rfl) (Nat.le_of_ble_eq_true rfl) rfl rfl (fun ans' h' hq9 => ?_)
  obtain ⟨rfl, rfl⟩ := hq9
  refine ⟨rfl, ?_⟩
  refine aX_heap (h' := (shP 135, I, L, RP98)) rfl ?_
  refine nAast (R' := RP99) (n := 22) (z := 0) dX6_init_86 rfl (by decide) (by decide) rfl rfl ?_
  refine nInc (lv' := [(0, .ref 77), (1, .ref 53), (2, .int (nI (14)))]) dX6_init_87 rfl rfl (by decide) rfl ?_
  refine aX_goto (tgt := 68) dX6_init_90 (by decide) ?_
  refine aX_iload_n dX6_init_68 rfl ?_
  refine aX_bipush (v := nI 22) dX6_init_69 (by decide) ?_
  refine nGe (tgt := 93) dX6_init_71 (by decide) (by decide) (by decide) (fun h => absurd h (by decide)) (fun _ => ?_)
  refine aX_aload_n dX6_init_74 rfl ?_
  refine aX_get (v := .ref 78) dX6_init_75 lfX6_11 (ci := 6) (z := 0) rfl rfl ?_
  refine aX_iload_n dX6_init_78 rfl ?_
  refine nNew (id := 143) (sh' := shP 136) (bc' := 15) (bs' := 110) (ci := 9) dX6_init_79 lnX6_9 rfl rfl (fun a b r h => Nat.lt_of_lt_of_le (wP99 a b r h) (by decide)) (FrZ_at hz (by decide)) (fun j => oP99 _ j (by decide)) rfl (Nat.le_of_ble_eq_true rfl) (Nat.le_of_ble_eq_true rfl) rfl rfl ?_
  refine aX_dup dX6_init_82 rfl ?_
  refine nCallI (As := []) (st := [.ref 143, .int (nI (14)), .ref 78]) (bc' := 14) (bs' := 98) dX6_init_83 wmX9_init (Or.inr lmX6_39) wiX9_init rfl rfl pnX9_init ⟨by decide, by decide⟩ rfl rfl (Nat.le_of_ble_eq_true rfl) aEok0 rfl (i_Whole (id := 144) (o := 143) (z := 0) rfl rfl (fun a b r h => Nat.lt_of_lt_of_le (wP99 a b r h) (by decide)) (FrZ_at hz (by decide)) (fun j => oP99 _ j (by decide)) (by decide)) (Nat.le_of_ble_eq_true rfl) (Nat.le_of_ble_eq_true rfl) rfl rfl (fun ans' h' hq9 => ?_)
  obtain ⟨rfl, rfl⟩ := hq9
  refine ⟨rfl, ?_⟩
  refine aX_heap (h' := (shP 137, I, L, RP100)) rfl ?_
  refine nAast (R' := RP101) (n := 22) (z := 0) dX6_init_86 rfl (by decide) (by decide) rfl rfl ?_
  refine nInc (lv' := [(0, .ref 77), (1, .ref 53), (2, .int (nI (15)))]) dX6_init_87 rfl rfl (by decide) rfl ?_
  refine aX_goto (tgt := 68) dX6_init_90 (by decide) ?_
  refine aX_iload_n dX6_init_68 rfl ?_
  refine aX_bipush (v := nI 22) dX6_init_69 (by decide) ?_
  refine nGe (tgt := 93) dX6_init_71 (by decide) (by decide) (by decide) (fun h => absurd h (by decide)) (fun _ => ?_)
  refine aX_aload_n dX6_init_74 rfl ?_
  refine aX_get (v := .ref 78) dX6_init_75 lfX6_11 (ci := 6) (z := 0) rfl rfl ?_
  refine aX_iload_n dX6_init_78 rfl ?_
  refine nNew (id := 145) (sh' := shP 138) (bc' := 13) (bs' := 96) (ci := 9) dX6_init_79 lnX6_9 rfl rfl (fun a b r h => Nat.lt_of_lt_of_le (wP101 a b r h) (by decide)) (FrZ_at hz (by decide)) (fun j => oP101 _ j (by decide)) rfl (Nat.le_of_ble_eq_true rfl) (Nat.le_of_ble_eq_true rfl) rfl rfl ?_
  refine aX_dup dX6_init_82 rfl ?_
  refine nCallI (As := []) (st := [.ref 145, .int (nI (15)), .ref 78]) (bc' := 12) (bs' := 84) dX6_init_83 wmX9_init (Or.inr lmX6_39) wiX9_init rfl rfl pnX9_init ⟨by decide, by decide⟩ rfl rfl (Nat.le_of_ble_eq_true rfl) aEok0 rfl (i_Whole (id := 146) (o := 145) (z := 0) rfl rfl (fun a b r h => Nat.lt_of_lt_of_le (wP101 a b r h) (by decide)) (FrZ_at hz (by decide)) (fun j => oP101 _ j (by decide)) (by decide)) (Nat.le_of_ble_eq_true rfl) (Nat.le_of_ble_eq_true rfl) rfl rfl (fun ans' h' hq9 => ?_)
  obtain ⟨rfl, rfl⟩ := hq9
  refine ⟨rfl, ?_⟩
  refine aX_heap (h' := (shP 139, I, L, RP102)) rfl ?_
  refine nAast (R' := RP103) (n := 22) (z := 0) dX6_init_86 rfl (by decide) (by decide) rfl rfl ?_
  refine nInc (lv' := [(0, .ref 77), (1, .ref 53), (2, .int (nI (16)))]) dX6_init_87 rfl rfl (by decide) rfl ?_
  refine aX_goto (tgt := 68) dX6_init_90 (by decide) ?_
  refine aX_iload_n dX6_init_68 rfl ?_
  refine aX_bipush (v := nI 22) dX6_init_69 (by decide) ?_
  refine nGe (tgt := 93) dX6_init_71 (by decide) (by decide) (by decide) (fun h => absurd h (by decide)) (fun _ => ?_)
  refine aX_aload_n dX6_init_74 rfl ?_
  refine aX_get (v := .ref 78) dX6_init_75 lfX6_11 (ci := 6) (z := 0) rfl rfl ?_
  refine aX_iload_n dX6_init_78 rfl ?_
  refine nNew (id := 147) (sh' := shP 140) (bc' := 11) (bs' := 82) (ci := 9) dX6_init_79 lnX6_9 rfl rfl (fun a b r h => Nat.lt_of_lt_of_le (wP103 a b r h) (by decide)) (FrZ_at hz (by decide)) (fun j => oP103 _ j (by decide)) rfl (Nat.le_of_ble_eq_true rfl) (Nat.le_of_ble_eq_true rfl) rfl rfl ?_
  refine aX_dup dX6_init_82 rfl ?_
  refine nCallI (As := []) (st := [.ref 147, .int (nI (16)), .ref 78]) (bc' := 10) (bs' := 70) dX6_init_83 wmX9_init (Or.inr lmX6_39) wiX9_init rfl rfl pnX9_init ⟨by decide, by decide⟩ rfl rfl (Nat.le_of_ble_eq_true rfl) aEok0 rfl (i_Whole (id := 148) (o := 147) (z := 0) rfl rfl (fun a b r h => Nat.lt_of_lt_of_le (wP103 a b r h) (by decide)) (FrZ_at hz (by decide)) (fun j => oP103 _ j (by decide)) (by decide)) (Nat.le_of_ble_eq_true rfl) (Nat.le_of_ble_eq_true rfl) rfl rfl (fun ans' h' hq9 => ?_)
  obtain ⟨rfl, rfl⟩ := hq9
  refine ⟨rfl, ?_⟩
  refine aX_heap (h' := (shP 141, I, L, RP104)) rfl ?_
  refine nAast (R' := RP105) (n := 22) (z := 0) dX6_init_86 rfl (by decide) (by decide) rfl rfl ?_
  refine nInc (lv' := [(0, .ref 77), (1, .ref 53), (2, .int (nI (17)))]) dX6_init_87 rfl rfl (by decide) rfl ?_
  refine aX_goto (tgt := 68) dX6_init_90 (by decide) ?_
  refine aX_iload_n dX6_init_68 rfl ?_
  refine aX_bipush (v := nI 22) dX6_init_69 (by decide) ?_
  refine nGe (tgt := 93) dX6_init_71 (by decide) (by decide) (by decide) (fun h => absurd h (by decide)) (fun _ => ?_)
  refine aX_aload_n dX6_init_74 rfl ?_
  refine aX_get (v := .ref 78) dX6_init_75 lfX6_11 (ci := 6) (z := 0) rfl rfl ?_
  refine aX_iload_n dX6_init_78 rfl ?_
  refine nNew (id := 149) (sh' := shP 142) (bc' := 9) (bs' := 68) (ci := 9) dX6_init_79 lnX6_9 rfl rfl (fun a b r h => Nat.lt_of_lt_of_le (wP105 a b r h) (by decide)) (FrZ_at hz (by decide)) (fun j => oP105 _ j (by decide)) rfl (Nat.le_of_ble_eq_true rfl) (Nat.le_of_ble_eq_true rfl) rfl rfl ?_
  refine aX_dup dX6_init_82 rfl ?_
  refine nCallI (As := []) (st := [.ref 149, .int (nI (17)), .ref 78]) (bc' := 8) (bs' := 56) dX6_init_83 wmX9_init (Or.inr lmX6_39) wiX9_init rfl rfl pnX9_init ⟨by decide, by decide⟩ rfl rfl (Nat.le_of_ble_eq_true rfl) aEok0 rfl (i_Whole (id := 150) (o := 149) (z := 0) rfl rfl (fun a b r h => Nat.lt_of_lt_of_le (wP105 a b r h) (by decide)) (FrZ_at hz (by decide)) (fun j => oP105 _ j (by decide)) (by decide)) (Nat.le_of_ble_eq_true rfl) (Nat.le_of_ble_eq_true rfl) rfl rfl (fun ans' h' hq9 => ?_)
  obtain ⟨rfl, rfl⟩ := hq9
  refine ⟨rfl, ?_⟩
  refine aX_heap (h' := (shP 143, I, L, RP106)) rfl ?_
  refine nAast (R' := RP107) (n := 22) (z := 0) dX6_init_86 rfl (by decide) (by decide) rfl rfl ?_
  refine nInc (lv' := [(0, .ref 77), (1, .ref 53), (2, .int (nI (18)))]) dX6_init_87 rfl rfl (by decide) rfl ?_
  refine aX_goto (tgt := 68) dX6_init_90 (by decide) ?_
  refine aX_iload_n dX6_init_68 rfl ?_
  refine aX_bipush (v := nI 22) dX6_init_69 (by decide) ?_
  refine nGe (tgt := 93) dX6_init_71 (by decide) (by decide) (by decide) (fun h => absurd h (by decide)) (fun _ => ?_)
  refine aX_aload_n dX6_init_74 rfl ?_
  refine aX_get (v := .ref 78) dX6_init_75 lfX6_11 (ci := 6) (z := 0) rfl rfl ?_
  refine aX_iload_n dX6_init_78 rfl ?_
  refine nNew (id := 151) (sh' := shP 144) (bc' := 7) (bs' := 54) (ci := 9) dX6_init_79 lnX6_9 rfl rfl (fun a b r h => Nat.lt_of_lt_of_le (wP107 a b r h) (by decide)) (FrZ_at hz (by decide)) (fun j => oP107 _ j (by decide)) rfl (Nat.le_of_ble_eq_true rfl) (Nat.le_of_ble_eq_true rfl) rfl rfl ?_
  refine aX_dup dX6_init_82 rfl ?_
  refine nCallI (As := []) (st := [.ref 151, .int (nI (18)), .ref 78]) (bc' := 6) (bs' := 42) dX6_init_83 wmX9_init (Or.inr lmX6_39) wiX9_init rfl rfl pnX9_init ⟨by decide, by decide⟩ rfl rfl (Nat.le_of_ble_eq_true rfl) aEok0 rfl (i_Whole (id := 152) (o := 151) (z := 0) rfl rfl (fun a b r h => Nat.lt_of_lt_of_le (wP107 a b r h) (by decide)) (FrZ_at hz (by decide)) (fun j => oP107 _ j (by decide)) (by decide)) (Nat.le_of_ble_eq_true rfl) (Nat.le_of_ble_eq_true rfl) rfl rfl (fun ans' h' hq9 => ?_)
  obtain ⟨rfl, rfl⟩ := hq9
  refine ⟨rfl, ?_⟩
  refine aX_heap (h' := (shP 145, I, L, RP108)) rfl ?_
  refine nAast (R' := RP109) (n := 22) (z := 0) dX6_init_86 rfl (by decide) (by decide) rfl rfl ?_
  refine nInc (lv' := [(0, .ref 77), (1, .ref 53), (2, .int (nI (19)))]) dX6_init_87 rfl rfl (by decide) rfl ?_
  refine aX_goto (tgt := 68) dX6_init_90 (by decide) ?_
  refine aX_iload_n dX6_init_68 rfl ?_
  refine aX_bipush (v := nI 22) dX6_init_69 (by decide) ?_
  refine nGe (tgt := 93) dX6_init_71 (by decide) (by decide) (by decide) (fun h => absurd h (by decide)) (fun _ => ?_)
  refine aX_aload_n dX6_init_74 rfl ?_
  refine aX_get (v := .ref 78) dX6_init_75 lfX6_11 (ci := 6) (z := 0) rfl rfl ?_
  refine aX_iload_n dX6_init_78 rfl ?_
  refine nNew (id := 153) (sh' := shP 146) (bc' := 5) (bs' := 40) (ci := 9) dX6_init_79 lnX6_9 rfl rfl (fun a b r h => Nat.lt_of_lt_of_le (wP109 a b r h) (by decide)) (FrZ_at hz (by decide)) (fun j => oP109 _ j (by decide)) rfl (Nat.le_of_ble_eq_true rfl) (Nat.le_of_ble_eq_true rfl) rfl rfl ?_
  refine aX_dup dX6_init_82 rfl ?_
  refine nCallI (As := []) (st := [.ref 153, .int (nI (19)), .ref 78]) (bc' := 4) (bs' := 28) dX6_init_83 wmX9_init (Or.inr lmX6_39) wiX9_init rfl rfl pnX9_init ⟨by decide, by decide⟩ rfl rfl (Nat.le_of_ble_eq_true rfl) aEok0 rfl (i_Whole (id := 154) (o := 153) (z := 0) rfl rfl (fun a b r h => Nat.lt_of_lt_of_le (wP109 a b r h) (by decide)) (FrZ_at hz (by decide)) (fun j => oP109 _ j (by decide)) (by decide)) (Nat.le_of_ble_eq_true rfl) (Nat.le_of_ble_eq_true rfl) rfl rfl (fun ans' h' hq9 => ?_)
  obtain ⟨rfl, rfl⟩ := hq9
  refine ⟨rfl, ?_⟩
  refine aX_heap (h' := (shP 147, I, L, RP110)) rfl ?_
  refine nAast (R' := RP111) (n := 22) (z := 0) dX6_init_86 rfl (by decide) (by decide) rfl rfl ?_
  refine nInc (lv' := [(0, .ref 77), (1, .ref 53), (2, .int (nI (20)))]) dX6_init_87 rfl rfl (by decide) rfl ?_
  refine aX_goto (tgt := 68) dX6_init_90 (by decide) ?_
  refine aX_iload_n dX6_init_68 rfl ?_
  refine aX_bipush (v := nI 22) dX6_init_69 (by decide) ?_
  refine nGe (tgt := 93) dX6_init_71 (by decide) (by decide) (by decide) (fun h => absurd h (by decide)) (fun _ => ?_)
  refine aX_aload_n dX6_init_74 rfl ?_
  refine aX_get (v := .ref 78) dX6_init_75 lfX6_11 (ci := 6) (z := 0) rfl rfl ?_
  refine aX_iload_n dX6_init_78 rfl ?_
  refine nNew (id := 155) (sh' := shP 148) (bc' := 3) (bs' := 26) (ci := 9) dX6_init_79 lnX6_9 rfl rfl (fun a b r h => Nat.lt_of_lt_of_le (wP111 a b r h) (by decide)) (FrZ_at hz (by decide)) (fun j => oP111 _ j (by decide)) rfl (Nat.le_of_ble_eq_true rfl) (Nat.le_of_ble_eq_true rfl) rfl rfl ?_
  refine aX_dup dX6_init_82 rfl ?_
  refine nCallI (As := []) (st := [.ref 155, .int (nI (20)), .ref 78]) (bc' := 2) (bs' := 14) dX6_init_83 wmX9_init (Or.inr lmX6_39) wiX9_init rfl rfl pnX9_init ⟨by decide, by decide⟩ rfl rfl (Nat.le_of_ble_eq_true rfl) aEok0 rfl (i_Whole (id := 156) (o := 155) (z := 0) rfl rfl (fun a b r h => Nat.lt_of_lt_of_le (wP111 a b r h) (by decide)) (FrZ_at hz (by decide)) (fun j => oP111 _ j (by decide)) (by decide)) (Nat.le_of_ble_eq_true rfl) (Nat.le_of_ble_eq_true rfl) rfl rfl (fun ans' h' hq9 => ?_)
  obtain ⟨rfl, rfl⟩ := hq9
  refine ⟨rfl, ?_⟩
  refine aX_heap (h' := (shP 149, I, L, RP112)) rfl ?_
  refine nAast (R' := RP113) (n := 22) (z := 0) dX6_init_86 rfl (by decide) (by decide) rfl rfl ?_
  refine nInc (lv' := [(0, .ref 77), (1, .ref 53), (2, .int (nI (21)))]) dX6_init_87 rfl rfl (by decide) rfl ?_
  refine aX_goto (tgt := 68) dX6_init_90 (by decide) ?_
  refine aX_iload_n dX6_init_68 rfl ?_
  refine aX_bipush (v := nI 22) dX6_init_69 (by decide) ?_
  refine nGe (tgt := 93) dX6_init_71 (by decide) (by decide) (by decide) (fun h => absurd h (by decide)) (fun _ => ?_)
  refine aX_aload_n dX6_init_74 rfl ?_
  refine aX_get (v := .ref 78) dX6_init_75 lfX6_11 (ci := 6) (z := 0) rfl rfl ?_
  refine aX_iload_n dX6_init_78 rfl ?_
  refine nNew (id := 157) (sh' := shP 150) (bc' := 1) (bs' := 12) (ci := 9) dX6_init_79 lnX6_9 rfl rfl (fun a b r h => Nat.lt_of_lt_of_le (wP113 a b r h) (by decide)) (FrZ_at hz (by decide)) (fun j => oP113 _ j (by decide)) rfl (Nat.le_of_ble_eq_true rfl) (Nat.le_of_ble_eq_true rfl) rfl rfl ?_
  refine aX_dup dX6_init_82 rfl ?_
  refine nCallI (As := []) (st := [.ref 157, .int (nI (21)), .ref 78]) (bc' := 0) (bs' := 0) dX6_init_83 wmX9_init (Or.inr lmX6_39) wiX9_init rfl rfl pnX9_init ⟨by decide, by decide⟩ rfl rfl (Nat.le_of_ble_eq_true rfl) aEok0 rfl (i_Whole (id := 158) (o := 157) (z := 0) rfl rfl (fun a b r h => Nat.lt_of_lt_of_le (wP113 a b r h) (by decide)) (FrZ_at hz (by decide)) (fun j => oP113 _ j (by decide)) (by decide)) (Nat.le_of_ble_eq_true rfl) (Nat.le_of_ble_eq_true rfl) rfl rfl (fun ans' h' hq9 => ?_)
  obtain ⟨rfl, rfl⟩ := hq9
  refine ⟨rfl, ?_⟩
  refine aX_heap (h' := (shP 151, I, L, RP114)) rfl ?_
  refine nAast (R' := RP115) (n := 22) (z := 0) dX6_init_86 rfl (by decide) (by decide) rfl rfl ?_
  refine nInc (lv' := [(0, .ref 77), (1, .ref 53), (2, .int (nI (22)))]) dX6_init_87 rfl rfl (by decide) rfl ?_
  refine aX_goto (tgt := 68) dX6_init_90 (by decide) ?_
  refine aX_iload_n dX6_init_68 rfl ?_
  refine aX_bipush (v := nI 22) dX6_init_69 (by decide) ?_
  refine nGe (tgt := 93) dX6_init_71 (by decide) (by decide) (by decide) (fun _ => ?_) (fun h => absurd h (by decide))
  exact rV dX6_init_93 rfl (⟨rfl, rfl⟩)
set_option maxRecDepth 20000 in
set_option maxHeartbeats 8000000 in
theorem i_X10_init {I : Nat → Nat → Int32} {L : Nat → Nat → Int64} (hz : FrZ 8 I L) : aM mX10_init [.ref 8] (shP 1, I, L, RP0) (fun ans h' => ans = none ∧ ∃ I', h' = (shP 151, I', L, RP116) ∧ rRep I' r0 ∧ (∀ i, i < 5 → I' 9 i = nI (w0 i)) ∧ ∀ q j, 8 ≤ q → (q < 9 ∨ q = 10 ∨ 15 < q) → I' q j = 0) := by
  refine aM_of plX10_init (Nat.le_of_ble_eq_true rfl) ?_
  refine aX_aload_n dX10_init_0 rfl ?_
  refine aX_objInit (st := []) dX10_init_1 loX10_3 wO2 wO3 (Nat.le_of_ble_eq_true rfl) (Nat.le_of_ble_eq_true rfl) ?_
  refine aX_aload_n dX10_init_4 rfl ?_
  refine aX_iconst (v := nI 5) dX10_init_5 (by decide) ?_
  refine nNewa (id := 9) (sh' := shP 2) (bc' := 149) (bs' := 6321) (kd := 0) (N := 5) dX10_init_6 (by decide) wA_int (by decide) rfl (by decide) rfl rfl (fun a b r h => Nat.lt_of_lt_of_le (wP0 a b r h) (by decide)) (FrZ_at hz (by decide)) (fun j => oP0 _ j (by decide)) rfl (Nat.le_of_ble_eq_true rfl) (Nat.le_of_ble_eq_true rfl) rfl rfl ?_
  refine pR (R' := RP1) dX10_init_8 lfX10_9 (fun _ _ _ hq => by cases hq; exact Or.inr ⟨rfl, rfl⟩) (ci := 10) (f := 0) rfl (Or.inr ⟨_, rfl⟩) rfl ?_
  refine aX_aload_n dX10_init_11 rfl ?_
  refine nNew (id := 10) (sh' := shP 3) (bc' := 148) (bs' := 6316) (ci := 3) dX10_init_12 lnX10_13 rfl rfl (fun a b r h => Nat.lt_of_lt_of_le (wP1 a b r h) (by decide)) (FrZ_at hz (by decide)) (fun j => oP1 _ j (by decide)) rfl (Nat.le_of_ble_eq_true rfl) (Nat.le_of_ble_eq_true rfl) rfl rfl ?_
  refine aX_dup dX10_init_15 rfl ?_
  refine nCallI (As := []) (st := [.ref 10, .ref 8]) (bc' := 143) (bs' := 5971) dX10_init_16 wmX3_init (Or.inl lmX10_15) wiX3_init rfl rfl pnX3_init ⟨by decide, by decide⟩ rfl rfl (Nat.le_of_ble_eq_true rfl) aEok0 rfl (i_X3_init (FrZ_at hz (by decide))) (Nat.le_of_ble_eq_true rfl) (Nat.le_of_ble_eq_true rfl) rfl rfl (fun ans' h' hq9 => ?_)
  obtain ⟨rfl, I2, rfl, hrr, hk2⟩ := hq9
  refine ⟨rfl, ?_⟩
  have hz2 : FrZ 16 I2 L := fun q j h => ⟨(hk2 q j (by omega)).trans (hz q j (by omega)).1, (hz q j (by omega)).2⟩
  refine pR (R' := RP7) dX10_init_19 lfX10_16 (fun _ _ _ hq => by cases hq; exact Or.inr ⟨rfl, rfl⟩) (ci := 10) (f := 1) rfl (Or.inl ⟨_, rfl⟩) rfl ?_
  refine aX_aload_n dX10_init_22 rfl ?_
  refine nNew (id := 16) (sh' := shP 9) (bc' := 142) (bs' := 5956) (ci := 5) dX10_init_23 lnX10_20 rfl rfl (fun a b r h => Nat.lt_of_lt_of_le (wP7 a b r h) (by decide)) (FrZ_at hz2 (by decide)) (fun j => oP7 _ j (by decide)) rfl (Nat.le_of_ble_eq_true rfl) (Nat.le_of_ble_eq_true rfl) rfl rfl ?_
  refine aX_dup dX10_init_26 rfl ?_
  refine nCallI (As := []) (st := [.ref 16, .ref 8]) (bc' := 131) (bs' := 5080) dX10_init_27 wmX5_init (Or.inr lmX10_22) wiX5_init rfl rfl pnX5_init ⟨by decide, by decide⟩ rfl rfl (Nat.le_of_ble_eq_true rfl) aEok0 rfl (i_X5_init (FrZ_at hz2 (by decide))) (Nat.le_of_ble_eq_true rfl) (Nat.le_of_ble_eq_true rfl) rfl rfl (fun ans' h' hq9 => ?_)
  obtain ⟨rfl, rfl⟩ := hq9
  refine ⟨rfl, ?_⟩
  refine pR (R' := RP19) dX10_init_30 lfX10_23 (fun _ _ _ hq => by cases hq; exact Or.inr ⟨rfl, rfl⟩) (ci := 10) (f := 2) rfl (Or.inl ⟨_, rfl⟩) rfl ?_
  refine aX_aload_n dX10_init_33 rfl ?_
  refine nNew (id := 28) (sh' := shP 21) (bc' := 130) (bs' := 5076) (ci := 2) dX10_init_34 lnX10_27 rfl rfl (fun a b r h => Nat.lt_of_lt_of_le (wP19 a b r h) (by decide)) (FrZ_at hz2 (by decide)) (fun j => oP19 _ j (by decide)) rfl (Nat.le_of_ble_eq_true rfl) (Nat.le_of_ble_eq_true rfl) rfl rfl ?_
  refine aX_dup dX10_init_37 rfl ?_
  refine nCallI (As := []) (st := [.ref 28, .ref 8]) (bc' := 122) (bs' := 5020) dX10_init_38 wmX2_init (Or.inr lmX10_29) wiX2_init rfl rfl pnX2_init ⟨by decide, by decide⟩ rfl rfl (Nat.le_of_ble_eq_true rfl) aEok0 rfl (i_X2_init (FrZ_at hz2 (by decide))) (Nat.le_of_ble_eq_true rfl) (Nat.le_of_ble_eq_true rfl) rfl rfl (fun ans' h' hq9 => ?_)
  obtain ⟨rfl, rfl⟩ := hq9
  refine ⟨rfl, ?_⟩
  refine pR (R' := RP28) dX10_init_41 lfX10_30 (fun _ _ _ hq => by cases hq; exact Or.inr ⟨rfl, rfl⟩) (ci := 10) (f := 8) rfl (Or.inl ⟨_, rfl⟩) rfl ?_
  refine aX_aload_n dX10_init_44 rfl ?_
  refine nNew (id := 37) (sh' := shP 30) (bc' := 121) (bs' := 5018) (ci := 8) dX10_init_45 lnX10_34 rfl rfl (fun a b r h => Nat.lt_of_lt_of_le (wP28 a b r h) (by decide)) (FrZ_at hz2 (by decide)) (fun j => oP28 _ j (by decide)) rfl (Nat.le_of_ble_eq_true rfl) (Nat.le_of_ble_eq_true rfl) rfl rfl ?_
  refine aX_dup dX10_init_48 rfl ?_
  refine nCallI (As := []) (st := [.ref 37, .ref 8]) (bc' := 120) (bs' := 4762) dX10_init_49 wmX8_init (Or.inr lmX10_36) wiX8_init rfl rfl pnX8_init ⟨by decide, by decide⟩ rfl rfl (Nat.le_of_ble_eq_true rfl) aEok0 rfl (i_X8_init (FrZ_at hz2 (by decide))) (Nat.le_of_ble_eq_true rfl) (Nat.le_of_ble_eq_true rfl) rfl rfl (fun ans' h' hq9 => ?_)
  obtain ⟨rfl, rfl⟩ := hq9
  refine ⟨rfl, ?_⟩
  refine pR (R' := RP30) dX10_init_52 lfX10_37 (fun _ _ _ hq => by cases hq; exact Or.inr ⟨rfl, rfl⟩) (ci := 10) (f := 9) rfl (Or.inl ⟨_, rfl⟩) rfl ?_
  refine aX_gets (i := 4) dX10_init_55 rfl (Or.inl lgX10_41) ?_
  refine aX_iconst (v := nI 0) dX10_init_58 (by decide) ?_
  refine aX_aload_n dX10_init_59 rfl ?_
  refine aX_get (v := .ref 9) dX10_init_60 lfX10_9 (ci := 10) (z := 0) rfl rfl ?_
  refine aX_iconst (v := nI 0) dX10_init_63 (by decide) ?_
  refine aX_iconst (v := nI 5) dX10_init_64 (by decide) ?_
  refine aX_copye (st := []) (n0 := 5) (n1 := 5) dX10_init_65 ⟨lyX10_44, wY1, wY2, wY3⟩ rfl rfl (by decide) (by decide) (by decide) (by decide) (by decide) (Nat.le_of_ble_eq_true rfl) (Nat.le_of_ble_eq_true rfl) ?_
  obtain ⟨I3, hI3⟩ : ∃ y, y = aUr I2 9 (va_cpy (fun n => ([100000, 1, 4, 2, 1] : List Int32).getD n 0) (I2 9) (nI 0).toNatClampNeg (nI 0).toNatClampNeg (nI 5).toNatClampNeg) := ⟨_, rfl⟩
  refine aX_heap (h' := (shP 31, I3, L, RP30)) (by rw [hI3]) ?_
  have hk3 : ∀ q j, q ≠ 9 → I3 q j = I2 q j := fun q j h => by rw [hI3, aUr_o h]
  have hw3 : ∀ i, i < 5 → I3 9 i = nI (w0 i) := fun i hi => by rw [hI3, aUr_s]; exact w0_cpy i hi
  have hz3 : FrZ 16 I3 L := fun q j h => ⟨(hk3 q j (by omega)).trans (hz2 q j (by omega)).1, (hz q j (by omega)).2⟩
  refine aX_aload_n dX10_init_68 rfl ?_
  refine nNew (id := 39) (sh' := shP 32) (bc' := 119) (bs' := 4759) (ci := 4) dX10_init_69 lnX10_50 rfl rfl (fun a b r h => Nat.lt_of_lt_of_le (wP30 a b r h) (by decide)) (FrZ_at hz3 (by decide)) (fun j => oP30 _ j (by decide)) rfl (Nat.le_of_ble_eq_true rfl) (Nat.le_of_ble_eq_true rfl) rfl rfl ?_
  refine aX_dup dX10_init_72 rfl ?_
  refine aX_aload_n dX10_init_73 rfl ?_
  refine aX_get (v := .ref 16) dX10_init_74 lfX10_23 (ci := 10) (z := 0) rfl rfl ?_
  refine aX_aload_n dX10_init_77 rfl ?_
  refine aX_get (v := .ref 10) dX10_init_78 lfX10_16 (ci := 10) (z := 0) rfl rfl ?_
  refine nCallI (As := [.ref 16, .ref 10]) (st := [.ref 39, .ref 8]) (bc' := 118) (bs' := 4743) dX10_init_81 wmX4_init (Or.inl lmX10_52) wiX4_init rfl rfl pnX4_init ⟨by decide, by decide⟩ rfl rfl (Nat.le_of_ble_eq_true rfl) aEok0 rfl (i_X4_init (FrZ_at hz3 (by decide))) (Nat.le_of_ble_eq_true rfl) (Nat.le_of_ble_eq_true rfl) rfl rfl (fun ans' h' hq9 => ?_)
  obtain ⟨rfl, rfl⟩ := hq9
  refine ⟨rfl, ?_⟩
  refine pR (R' := RP34) dX10_init_84 lfX10_55 (fun _ _ _ hq => by cases hq; exact Or.inr ⟨rfl, rfl⟩) (ci := 10) (f := 3) rfl (Or.inl ⟨_, rfl⟩) rfl ?_
  refine aX_aload_n dX10_init_87 rfl ?_
  refine nNew (id := 41) (sh' := shP 34) (bc' := 117) (bs' := 4733) (ci := 1) dX10_init_88 lnX10_59 rfl rfl (fun a b r h => Nat.lt_of_lt_of_le (wP34 a b r h) (by decide)) (FrZ_at hz3 (by decide)) (fun j => oP34 _ j (by decide)) rfl (Nat.le_of_ble_eq_true rfl) (Nat.le_of_ble_eq_true rfl) rfl rfl ?_
  refine aX_dup dX10_init_91 rfl ?_
  refine aX_aload_n dX10_init_92 rfl ?_
  refine aX_get (v := .ref 16) dX10_init_93 lfX10_23 (ci := 10) (z := 0) rfl rfl ?_
  refine aX_aload_n dX10_init_96 rfl ?_
  refine aX_get (v := .ref 39) dX10_init_97 lfX10_55 (ci := 10) (z := 0) rfl rfl ?_
  refine aX_aload_n dX10_init_100 rfl ?_
  refine aX_get (v := .ref 9) dX10_init_101 lfX10_9 (ci := 10) (z := 0) rfl rfl ?_
  refine nCallI (As := [.ref 16, .ref 39, .ref 9]) (st := [.ref 41, .ref 8]) (bc' := 110) (bs' := 1791) dX10_init_104 wmX1_init (Or.inl lmX10_61) wiX1_init rfl rfl pnX1_init ⟨by decide, by decide⟩ rfl rfl (Nat.le_of_ble_eq_true rfl) aEok0 rfl (i_X1_init (FrZ_at hz3 (by decide))) (Nat.le_of_ble_eq_true rfl) (Nat.le_of_ble_eq_true rfl) rfl rfl (fun ans' h' hq9 => ?_)
  obtain ⟨rfl, rfl⟩ := hq9
  refine ⟨rfl, ?_⟩
  refine pR (R' := RP45) dX10_init_107 lfX10_64 (fun _ _ _ hq => by cases hq; exact Or.inr ⟨rfl, rfl⟩) (ci := 10) (f := 4) rfl (Or.inl ⟨_, rfl⟩) rfl ?_
  refine aX_aload_n dX10_init_110 rfl ?_
  refine nNew (id := 49) (sh' := shP 42) (bc' := 109) (bs' := 1782) (ci := 0) dX10_init_111 lnX10_68 rfl rfl (fun a b r h => Nat.lt_of_lt_of_le (wP45 a b r h) (by decide)) (FrZ_at hz3 (by decide)) (fun j => oP45 _ j (by decide)) rfl (Nat.le_of_ble_eq_true rfl) (Nat.le_of_ble_eq_true rfl) rfl rfl ?_
  refine aX_dup dX10_init_114 rfl ?_
  refine aX_aload_n dX10_init_115 rfl ?_
  refine aX_get (v := .ref 16) dX10_init_116 lfX10_23 (ci := 10) (z := 0) rfl rfl ?_
  refine aX_aload_n dX10_init_119 rfl ?_
  refine aX_get (v := .ref 10) dX10_init_120 lfX10_16 (ci := 10) (z := 0) rfl rfl ?_
  refine aX_aload_n dX10_init_123 rfl ?_
  refine aX_get (v := .ref 39) dX10_init_124 lfX10_55 (ci := 10) (z := 0) rfl rfl ?_
  refine aX_aload_n dX10_init_127 rfl ?_
  refine aX_get (v := .ref 41) dX10_init_128 lfX10_64 (ci := 10) (z := 0) rfl rfl ?_
  refine nCallI (As := [.ref 16, .ref 10, .ref 39, .ref 41]) (st := [.ref 49, .ref 8]) (bc' := 106) (bs' := 1534) dX10_init_131 wmX0_init (Or.inl lmX10_70) wiX0_init rfl rfl pnX0_init ⟨by decide, by decide⟩ rfl rfl (Nat.le_of_ble_eq_true rfl) aEok0 rfl (i_X0_init (FrZ_at hz3 (by decide))) (Nat.le_of_ble_eq_true rfl) (Nat.le_of_ble_eq_true rfl) rfl rfl (fun ans' h' hq9 => ?_)
  obtain ⟨rfl, rfl⟩ := hq9
  refine ⟨rfl, ?_⟩
  refine pR (R' := RP53) dX10_init_134 lfX10_73 (fun _ _ _ hq => by cases hq; exact Or.inr ⟨rfl, rfl⟩) (ci := 10) (f := 5) rfl (Or.inl ⟨_, rfl⟩) rfl ?_
  refine aX_aload_n dX10_init_137 rfl ?_
  refine nNew (id := 53) (sh' := shP 46) (bc' := 105) (bs' := 1524) (ci := 7) dX10_init_138 lnX10_77 rfl rfl (fun a b r h => Nat.lt_of_lt_of_le (wP53 a b r h) (by decide)) (FrZ_at hz3 (by decide)) (fun j => oP53 _ j (by decide)) rfl (Nat.le_of_ble_eq_true rfl) (Nat.le_of_ble_eq_true rfl) rfl rfl ?_
  refine aX_dup dX10_init_141 rfl ?_
  refine aX_aload_n dX10_init_142 rfl ?_
  refine aX_get (v := .ref 16) dX10_init_143 lfX10_23 (ci := 10) (z := 0) rfl rfl ?_
  refine aX_aload_n dX10_init_146 rfl ?_
  refine aX_get (v := .ref 39) dX10_init_147 lfX10_55 (ci := 10) (z := 0) rfl rfl ?_
  refine aX_aload_n dX10_init_150 rfl ?_
  refine aX_get (v := .ref 41) dX10_init_151 lfX10_64 (ci := 10) (z := 0) rfl rfl ?_
  refine aX_aload_n dX10_init_154 rfl ?_
  refine aX_get (v := .ref 9) dX10_init_155 lfX10_9 (ci := 10) (z := 0) rfl rfl ?_
  refine nCallI (As := [.ref 16, .ref 39, .ref 41, .ref 9]) (st := [.ref 53, .ref 8]) (bc' := 82) (bs' := 1064) dX10_init_158 wmX7_init (Or.inl lmX10_79) wiX7_init rfl rfl pnX7_init ⟨by decide, by decide⟩ rfl rfl (Nat.le_of_ble_eq_true rfl) aEok0 rfl (i_X7_init (FrZ_at hz3 (by decide))) (Nat.le_of_ble_eq_true rfl) (Nat.le_of_ble_eq_true rfl) rfl rfl (fun ans' h' hq9 => ?_)
  obtain ⟨rfl, rfl⟩ := hq9
  refine ⟨rfl, ?_⟩
  refine pR (R' := RP62) dX10_init_161 lfX10_82 (fun _ _ _ hq => by cases hq; exact Or.inr ⟨rfl, rfl⟩) (ci := 10) (f := 6) rfl (Or.inl ⟨_, rfl⟩) rfl ?_
  refine aX_aload_n dX10_init_164 rfl ?_
  refine nNew (id := 77) (sh' := shP 70) (bc' := 81) (bs' := 1056) (ci := 6) dX10_init_165 lnX10_86 rfl rfl (fun a b r h => Nat.lt_of_lt_of_le (wP62 a b r h) (by decide)) (FrZ_at hz3 (by decide)) (fun j => oP62 _ j (by decide)) rfl (Nat.le_of_ble_eq_true rfl) (Nat.le_of_ble_eq_true rfl) rfl rfl ?_
  refine aX_dup dX10_init_168 rfl ?_
  refine aX_aload_n dX10_init_169 rfl ?_
  refine aX_get (v := .ref 53) dX10_init_170 lfX10_82 (ci := 10) (z := 0) rfl rfl ?_
  refine nCallI (As := [.ref 53]) (st := [.ref 77, .ref 8]) (bc' := 0) (bs' := 0) dX10_init_173 wmX6_init (Or.inl lmX10_88) wiX6_init rfl rfl pnX6_init ⟨by decide, by decide⟩ rfl rfl (Nat.le_of_ble_eq_true rfl) aEok0 rfl (i_X6_init (FrZ_at hz3 (by decide))) (Nat.le_of_ble_eq_true rfl) (Nat.le_of_ble_eq_true rfl) rfl rfl (fun ans' h' hq9 => ?_)
  obtain ⟨rfl, rfl⟩ := hq9
  refine ⟨rfl, ?_⟩
  refine pR (R' := RP116) dX10_init_176 lfX10_91 (fun _ _ _ hq => by cases hq; exact Or.inr ⟨rfl, rfl⟩) (ci := 10) (f := 7) rfl (Or.inl ⟨_, rfl⟩) rfl ?_
  exact rV dX10_init_179 rfl (⟨rfl, I3, rfl, rRep_k5 (fun q j h1 h2 => hk3 q j (by omega)) hrr, hw3, fun q j h1 h2 => (hk3 q j (by omega)).trans ((hk2 q j (by omega)).trans (hz q j h1).1)⟩)
