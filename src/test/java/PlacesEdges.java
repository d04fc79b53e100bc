/** Part 4 of 'Terms', PLACES, and promises 15 to 17: variables, and which of them are loose. */
final class PlacesEdges {
    private static final int BAD = Run.BAD, STATE = Run.STATE, FULL = Run.FULL;
    private static final int LOW = Run.LOW, HIGH = Run.HIGH;
    private static final String PART = "4 PLACES";

    private PlacesEdges() { }

    static void all() {
        variables();
        pairs();
        moves();
        equals();
        hanging();
        looseOnes();
        solve();
        variable();
        loose();
    }

    /** A note over three sets, one in the middle set, and one over the last two. */
    private static Run overlapping() {
        return Scores.score(67, 0, 6, 64, 2, 4, 60, 2, 6);
    }

    private static void variables() {
        Sentences.test(PART, "VARIABLES: for each set in order, in it for each note by numbers", () -> overlapping()
            .due(0, "variable 0 0").due(1, "variable 1 0").due(2, "variable 1 1").due(3, "variable 1 2")
            .due(4, "variable 2 0").due(5, "variable 2 2"));
        Sentences.test(PART, "one that is BOUND has one at its first set, which is that of all its sets", () ->
            overlapping()
            .does("bind 0 on").due(0, "variable 0 0", "variable 1 0", "variable 2 0").due(1, "variable 1 1")
            .due(2, "variable 1 2").due(3, "variable 2 2"));
        Sentences.test(PART, "BOUND: its first set is a later one", () -> overlapping().does("bind 2 on")
            .due(3, "variable 1 2", "variable 2 2").due(4, "variable 2 0"));
        Sentences.test(PART, "BOUND: it has one set alone", () -> overlapping().does("bind 1 on").due(2, "variable 1 1")
            .due(3, "variable 1 2").due(5, "variable 2 2"));
        Sentences.test(PART, "not BOUND any more", () -> overlapping()
            .does("bind 0 on", "bind 2 on", "bind 0 off", "bind 2 off")
            .due(5, "variable 2 2"));
    }

    private static void pairs() {
        // Moves a, b of the BOUND fifth and c of the octave:
        // 2 (a - b + 196)^2 + (a - c)^2 + (b - c - 196)^2 + 2 a^2 + 2 b^2 + c^2.
        Sentences.test(PART, "H: for each set and each pair of notes of it", () ->
            Scores.score(60, 0, 2, 67, 0, 2, 72, 1, 2)
            .does("bind 0 on", "bind 1 on").weighs(0, 0, 1, 0, 1).solves().dueText("-56", "move 0 0")
            .dueText("84", "move 0 1")
            .dueText("-56", "move 1 2").dueText("32928", "energy"));
        Sentences.test(PART, "H 0", () -> Scores.chord(60, 67).does("weight 2 0").solves().dueText("600000", "place 0 0")
            .dueText("670000", "place 0 1").dueText("0", "energy"));
        // Each by 99 * 196 / (1 + 2 * 99).
        Sentences.test(PART, "H 99", () -> Scores.chord(60, 67).does("weight 2 99").solves()
            .dueText("19404/199", "move 0 1"));
        Sentences.test(PART, "TARGETS by THE CHOICE", () -> Scores.chord(60, 67).lists(7, 40, 27, 3, 2).solves()
            .due(1, "chosen 0").dueText("784/9", "move 0 1"));
    }

    /** The fifth is in set 0 alone, so that set 1 is drawn by the held note. */
    private static Run held() {
        return Scores.score(60, 0, 2, 67, 0, 1);
    }

    private static void moves() {
        // 7 u - 4 v - 2 w = -784, 5 v - 4 u = 784, 3 w - 2 u = 0.
        Sentences.test(PART, "M: for all notes COMMON to k and k + 1 that are not BOUND", () -> held().solves()
            .dueText("-2352/37", "move 0 0").dueText("3920/37", "move 0 1").dueText("-1568/37", "move 1 0"));
        Sentences.test(PART, "M 0", () -> held().does("weight 3 0").solves().dueText("-784/9", "move 0 0")
            .dueText("0", "move 1 0"));
        Sentences.test(PART, "M: not for a BOUND note", () -> {
            for (int m = 0; m < 100; m += 33) {
                held().does("bind 0 on", "weight 3 " + m).solves().dueText("-56", "move 0 0").dueText("21952", "energy");
            }
        });
        Sentences.test(PART, "M: not for another note with the KEY, nor over a silence", () -> {
            Scores.score(60, 0, 1, 67, 0, 1, 60, 1, 2).solves().dueText("0", "move 1 2");
            Scores.score(60, 0, 1, 67, 0, 1, 60, 2, 3).solves().dueText("0", "move 1 2");
        });
    }

    private static void equals() {
        // (2 S + H) u - H v = -H 196 and (S + H) v - H u = H 196.
        Sentences.test(PART, "S: for each set and each note of it, a BOUND one in each of its sets", () -> held()
            .does("bind 0 on").solves().dueText("599944", "place 0 0").dueText("599944", "place 1 0")
            .dueText("670112", "place 0 1").dueText("21952", "energy"));
        // Each by 4 * 196 / (99 + 2 * 4).
        Sentences.test(PART, "S 99", () -> Scores.chord(60, 67).does("weight 4 99").solves()
            .dueText("784/107", "move 0 1"));
    }

    /** Set 0 has the variables 0, 1, set 1 has 2, 3 for the same notes and 4. */
    private static Run hung(int h, int m, int s) {
        return Scores.score(60, 0, 2, 67, 0, 2, 62, 1, 2).weighs(0, 0, h, m, s);
    }

    private static void hanging() {
        Sentences.test(PART, "HANG: a term with H or M above 0: neither", () -> hung(0, 0, 0).solves().due(5, "loose")
            .dueText("0", "energy").due(600000, "near 0 0", "near 1 0").due(670000, "near 0 1", "near 1 1")
            .due(620000, "near 1 2"));
        Sentences.test(PART, "HANG: a term with H above 0 alone", () -> hung(1, 0, 0).solves().due(2, "loose")
            .due(599804, "near 0 0").due(670000, "near 0 1").due(599608, "near 1 0").due(669804, "near 1 1")
            .due(620000, "near 1 2"));
        Sentences.test(PART, "HANG: a term with M above 0 alone", () -> hung(0, 1, 0).solves().due(3, "loose")
            .due(600000, "near 0 0", "near 1 0").due(670000, "near 0 1", "near 1 1").due(620000, "near 1 2"));
        Sentences.test(PART, "HANG: .. has both, or over others", () -> hung(1, 1, 0).solves().due(1, "loose")
            .due(599608, "near 0 0", "near 1 0").due(669804, "near 0 1", "near 1 1").due(620000, "near 1 2"));
        Sentences.test(PART, "HANG: over many others", () -> Scores
            .score(60, 0, 2, 67, 1, 3, 74, 2, 4, 81, 3, 5, 88, 4, 6, 95, 5, 7).weighs(0, 0, 1, 1, 0).solves()
            .due(1, "loose")
            .due(950000, "near 6 5").due(950000 - 5 * 70196, "near 0 0"));
        Sentences.test(PART, "HANG: over a note that is BOUND", () -> hung(1, 0, 0).does("bind 1 on").solves()
            .due(1, "loose")
            .due(599608, "near 0 0", "near 1 0").due(669804, "near 0 1", "near 1 1").due(620000, "near 1 2"));
        Sentences.test(PART, "HANG: M has no term for BOUND ones", () -> hung(0, 99, 0).does("bind 0 on", "bind 1 on")
            .solves()
            .due(3, "loose"));
        Sentences.test(PART, "HANG: as the weights are now", () -> hung(1, 1, 0).solves().due(1, "loose")
            .weighs(0, 0, 0, 0, 0)
            .solves().due(5, "loose").due(600000, "near 0 0", "near 1 0").weighs(0, 0, 1, 0, 0).solves().due(2, "loose")
            .due(599804, "near 0 0"));
        Sentences.test(PART, "HANG: not over a silence", () -> Scores.score(60, 0, 1, 67, 0, 1, 60, 2, 3, 64, 2, 3)
            .weighs(0, 0, 99, 99, 0).solves().due(2, "loose").due(599804, "near 0 0").due(640000, "near 1 3")
            .due(640000 - 38631, "near 1 2"));
    }

    private static void looseOnes() {
        Sentences.test(PART, "the last one stands at EQUAL of its note, then", () -> Scores.chord(67, 60).does("weight 4 0")
            .solves().dueText("600000", "place 0 1").dueText("670196", "place 0 0").due(1, "loose"));
        Sentences.test(PART, "the last one: the last variable, not the last note", () -> Scores.score(60, 0, 2, 67, 0, 1)
            .weighs(0, 0, 1, 1, 0).solves().due(2, "variable 1 0").dueText("600000", "place 1 0")
            .dueText("670196", "place 0 1"));
        Sentences.test(PART, "LOOSE: one note alone", () -> Scores.chord(60).does("weight 4 0").solves().due(1, "loose")
            .dueText("600000", "place 0 0"));
        Sentences.test(PART, "If S is 0, not if it is 1", () -> hung(0, 0, 1).solves().due(0, "loose")
            .does("weight 2 1").solves().due(0, "loose").does("weight 4 0").solves().due(2, "loose"));
        // Moves a, b of 60, 64; 55 is loose: (b - a + 1369)^2 + (a + 196)^2 + (b - 588)^2 + (b - a - 784)^2.
        Sentences.test(PART, "those with the least ENERGY, also if S is 0", () -> Scores.score(60, 0, 2, 64, 0, 2, 55, 1, 2)
            .lists(9, 27, 16).does("bind 0 on", "bind 1 on").weighs(0, 0, 1, 0, 0).solves().due(1, "loose")
            .dueText("3001173/5", "place 0 0").dueText("3200787/5", "place 1 1").dueText("550000", "place 1 2")
            .dueText("13906227/5", "energy"));
    }

    private static void solve() {
        Sentences.test("Promise 15", "STATE: there is no CHOICE", () -> new Run().due(STATE, "solve").notes(60, 0, 1)
            .due(STATE, "solve").does("choose").due(1, "solve").does("bind 0 off").due(STATE, "solve"));
        Sentences.test("Promise 15", "FULL: more than 20", () -> Scores.twentyOneVariables().does("choose")
            .due(FULL, "solve")
            .due(STATE, "loose", "energy", "near 0 0").due(0, "chosen 0"));
        Sentences.test("Promise 15", "FULL: 20 are taken", () -> Scores.twentyVariables().does("choose").due(20, "solve")
            .due(0, "loose").due(19, "variable 4 7").does("place 4 7", "weight 4 0").solves().due(1, "loose")
            .dueText("640000", "place 4 7"));
        Sentences.test("Promise 15", "FULL: 20 are taken, as a note is BOUND", () -> Scores.twentyOneVariables()
            .does("bind 7 on")
            .does("choose").due(20, "solve").due(19, "variable 4 7", "variable 5 7"));
        Sentences.test("Promise 15", "how many VARIABLES: all 16 notes BOUND", () -> {
            Run run = Scores.longest();
            for (int note = 0; note < 16; note++) {
                run.does("bind " + note + " on");
            }
            run.does("choose").due(16, "solve").does("place 30 15", "energy");
        });
        Sentences.test("Promise 15", "THE PLACES are found, also once more", () -> Scores.chord(60, 67).does("choose")
            .due(2, "solve", "solve").dueText("784/9", "move 0 1").dueText("153664/9", "energy").due(0, "loose")
            .does("weight 4 0").solves().due(2, "solve").due(1, "loose").dueText("0", "energy"));
    }

    private static void variable() {
        Sentences.test("Promise 16", "also without PLACES", () -> Scores.chord(60, 67).due(1, "variable 0 1").does("choose")
            .due(1, "variable 0 1").does("solve").due(1, "variable 0 1"));
        Sentences.test("Promise 16", "also beyond the 20 that solve takes", () -> Scores.longest()
            .due(145, "variable 30 15")
            .due(0, "variable 0 0"));
        Sentences.test("Promise 16", "BAD: no such set", () -> overlapping()
            .due(BAD, "variable -1 0", "variable 3 0", "variable " + LOW + " 0", "variable " + HIGH + " 0"));
        Sentences.test("Promise 16", "BAD: no such note", () -> overlapping()
            .due(BAD, "variable 1 -1", "variable 1 3", "variable 1 16", "variable 1 " + LOW, "variable 1 " + HIGH));
        Sentences.test("Promise 16", "BAD: also a note that does not sound there", () -> overlapping()
            .due(BAD, "variable 0 1", "variable 0 2", "variable 2 1").does("bind 0 on", "bind 1 on", "bind 2 on")
            .due(BAD, "variable 0 1", "variable 0 2", "variable 2 1"));
    }

    private static void loose() {
        Sentences.test("Promise 17", "STATE: there are no PLACES", () -> new Run().due(STATE, "loose").notes(60, 0, 1)
            .due(STATE, "loose").does("choose").due(STATE, "loose").does("solve").due(0, "loose").does("choose")
            .due(STATE, "loose"));
        Sentences.test("Promise 17", "How many variables are LOOSE: none, all", () -> Scores.twentyVariables().solves()
            .due(0, "loose").weighs(0, 0, 0, 0, 0).solves().due(20, "loose"));
    }
}
