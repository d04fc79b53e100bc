/** Part 3 of 'Terms', THE CHOICE, and promises 13 and 14. */
final class ChoiceEdges {
    private static final int BAD = Run.BAD, STATE = Run.STATE, FULL = Run.FULL, NONE = Run.NONE;
    private static final int LOW = Run.LOW, HIGH = Run.HIGH;
    private static final String PART = "3 THE CHOICE";
    /** SIZE of 81/80. */
    private static final long COMMA = 2153;

    private ChoiceEdges() { }

    static void all() {
        likeCosts();
        costs();
        strains();
        chooseIsRefused();
        choose();
        chosen();
    }

    private static void likeCosts() {
        Sentences.test(PART, "of several such the one with the lesser number", () -> {
            Scores.chord(60, 67).lists(7, 4, 3, 3, 2).due(200000, "choose").due(0, "chosen 0");
            Scores.chord(60, 67).lists(7, 5, 4, 4, 3, 3, 2).due(200000, "choose").due(1, "chosen 0");
        });
        Sentences.test(PART, "at the first set where they differ", () -> crossedFifths().due(0, "choose", "chosen 0")
            .due(1, "chosen 1"));
        Sentences.test(PART, "at the first set where they differ, which is not set 0", () -> crossedFifths()
            .notes(60, 8, 9).notes(64, 8, 10, 71, 8, 10, 59, 9, 10).due(0, "choose", "chosen 0").due(1, "chosen 1")
            .due(0, "chosen 2").due(1, "chosen 3"));
        Sentences.test(PART, "of several such: one with more HARSH, one with more STRAIN", () -> {
            harshOrStrained(14, 13, 27, 25);
            harshOrStrained(27, 25, 14, 13);
        });
        Sentences.test(PART, "at the first set where they differ, all others are like", () -> Scores
            .score(60, 0, 1, 67, 0, 1, 60, 1, 2, 67, 1, 2, 60, 3, 4, 67, 3, 4).lists(7, 4, 3, 3, 2).due(600000, "choose")
            .due(0, "chosen 0", "chosen 1", "chosen 2"));
    }

    /** Without A: 3/2 goes with 4/3, and 40/27 with 27/20, which have the other order. */
    private static Run crossedFifths() {
        return Scores.score(60, 0, 2, 67, 0, 2, 55, 1, 2).lists(7, 3, 2, 40, 27).lists(5, 27, 20, 4, 3)
            .weighs(0, 1, 4, 2, 1);
    }

    /** 14/13 has 8 more HARSH in set 1, where 27/25 has a STRAIN of 30 * 496 * 496: that is 8 A. */
    private static void harshOrStrained(int... terms) {
        Scores.score(60, 0, 2, 67, 0, 2, 55, 1, 2).lists(7, 13, 7).lists(5, terms).does("weight 0 922560")
            .due(922560 * (18 + 36), "choose").due(0, "chosen 0", "chosen 1");
    }

    private static void costs() {
        Sentences.test(PART, "COST: A 0", () -> Scores.chord(60, 64, 67).does("weight 0 0").due(0, "choose"));
        Sentences.test(PART, "COST: A 1000000", () -> Scores.chord(60, 64, 67).does("weight 0 1000000")
            .due(12000000, "choose"));
        Sentences.test(PART, "COST: of all chosen readings", () ->
            Scores.score(60, 0, 1, 67, 0, 1, 60, 1, 2, 60, 3, 4, 64, 3, 4)
            .due(100000 * (2 + 0 + 4), "choose"));
        Sentences.test(PART, "so that the COST is the least, not that of each set", () -> Scores
            .score(60, 0, 2, 67, 0, 2, 55, 1, 2).lists(5, 27, 20).lists(7, 3, 2, 40, 27).does("weight 1 99")
            .due(100000 * (10 + 20), "choose").due(1, "chosen 0").due(0, "chosen 1"));
        Sentences.test(PART, "COST: B 0", () -> strained(2).does("weight 1 0").due(0, "choose"));
        Sentences.test(PART, "COST: B 99", () -> strained(2).does("weight 1 99").due(99 * 30 * COMMA * COMMA, "choose"));
        Sentences.test(PART, "COST: sets next to one another by number, each pair of them", () -> strained(2)
            .notes(60, 10, 12, 64, 10, 12, 55, 11, 12).due(2 * 30 * COMMA * COMMA, "choose"));
        Sentences.test(PART, "COST: beyond the numbers of an int", () -> strained(2).lists(9, 1, 1).does("weight 1 99")
            .due(99L * 30 * 88435 * 88435, "choose"));
    }

    private static void strains() {
        Sentences.test(PART, "STRAIN: 0 with m = 0, over a silence", () -> apart(2).due(0, "choose"));
        Sentences.test(PART, "STRAIN: 0 with m = 0, without a silence", () -> apart(1).due(0, "choose"));
        Sentences.test(PART, "STRAIN: m = 1", () -> strained(1).due(0, "choose"));
        Sentences.test(PART, "STRAIN: m = 2", () -> strained(2).due(60 / 2 * (2 - 1) * COMMA * COMMA, "choose"));
        Sentences.test(PART, "STRAIN: m = 3", () -> strained(3).due(60 / 3 * (3 - 1) * COMMA * COMMA, "choose"));
        Sentences.test(PART, "STRAIN: m = 4", () -> strained(4).due(60 / 4 * (4 - 1) * COMMA * COMMA, "choose"));
        Sentences.test(PART, "STRAIN: m = 5", () -> strained(5).due(60 / 5 * (5 - 1) * COMMA * COMMA, "choose"));
        Sentences.test(PART, "STRAIN: notes that were COMMON before do not count", () -> strained(5)
            .due(48 * COMMA * COMMA, "choose").does("clear").notes(64, 0, 2, 55, 1, 2, 60, 0, 2)
            .due(30 * COMMA * COMMA, "choose"));
        Sentences.test(PART, "STRAIN: notes that are not COMMON do not count", () -> strained(2).notes(61, 0, 1, 63, 1, 2)
            .due(30 * COMMA * COMMA, "choose"));
    }

    /** One of m COMMON notes is read a comma higher in the second set than the others; no A. */
    private static Run strained(int m) {
        Run run = Scores.score(64, 0, 2, 55, 1, 2).lists(9, 27, 16).does("weight 0 0");
        for (int i = 1; i < m; i++) {
            run.notes(48 + 12 * i, 0, 2);
        }
        return run;
    }

    /** The KEYS of three strained ones, but each set has notes of its own; B 99. */
    private static Run apart(int from) {
        return Scores.score(60, 0, 1, 64, 0, 1, 60, from, 3, 64, from, 3, 55, from, 3).lists(9, 27, 16)
            .weighs(0, 99, 4, 2, 1);
    }

    private static void chooseIsRefused() {
        Sentences.test("Promise 13", "STATE: there is no set", () -> new Run().due(STATE, "choose").notes(60, 0, 1)
            .due(0, "choose").does("clear").due(STATE, "choose"));
        Sentences.test("Promise 13", "STATE: a set has no reading, the only one", () -> Scores.chord(60, 67).does("empty 7")
            .due(STATE, "choose").due(NONE, "chosen 0"));
        Sentences.test("Promise 13", "STATE: a set has no reading, the first", () -> threeSets().does("empty 4")
            .due(STATE, "choose"));
        Sentences.test("Promise 13", "STATE: a set has no reading, amid", () -> threeSets().does("empty 5")
            .due(STATE, "choose"));
        Sentences.test("Promise 13", "STATE: a set has no reading, the last", () -> threeSets().does("empty 7")
            .due(STATE, "choose"));
        Sentences.test("Promise 13", "FULL: a set has more than 64: 72", () -> Scores.sixWith(3, 3, 2, 2, 2)
            .due(72, "set 0 4")
            .due(FULL, "choose").due(NONE, "chosen 0"));
        Sentences.test("Promise 13", "FULL: a set has more than 64: 243", () -> Scores.sixWith(3, 3, 3, 3, 3)
            .due(FULL, "choose"));
        // 54 is the greatest number below 64 that lists of three at most can give.
        Sentences.test("Promise 13", "FULL: 54 are taken, the last of them too", () -> Scores.sixWith(3, 3, 3, 2, 1)
            .due(54, "set 0 4").due(100000 * (30 + 12 + 24 + 12), "choose").due(53, "chosen 0"));
        Sentences.test("Promise 13", "FULL: a set has more than 64, the last", () -> Scores.sixLastWith(3, 3, 2, 2, 2)
            .due(1, "set 0 4").due(72, "set 1 4").due(FULL, "choose"));
        Sentences.test("Promise 13", "FULL: 54 are taken in sets next to one another", () -> Scores
            .score(60, 0, 2, 61, 0, 2, 62, 0, 2, 63, 0, 2, 64, 0, 2, 65, 0, 1).lists(1, 7, 4, 13, 7, 1, 1)
            .lists(2, 7, 4, 13, 7, 1, 1).lists(3, 7, 4, 13, 7, 1, 1).lists(4, 7, 4, 1, 1).lists(5, 1, 1)
            .due(54, "set 0 4", "set 1 4").due(0, "choose").due(53, "chosen 0", "chosen 1"));
        Sentences.test("Promise 13", "FULL: all sets together may have more", () -> Scores.sixWith(3, 3, 3, 2, 1)
            .notes(60, 5, 6, 61, 5, 6, 62, 5, 6, 63, 5, 6, 64, 5, 6).due(54, "set 0 4", "set 1 4").does("choose"));
    }

    private static Run threeSets() {
        return Scores.score(60, 0, 1, 64, 0, 1, 60, 1, 2, 65, 1, 2, 60, 4, 5, 67, 4, 5);
    }

    private static void choose() {
        Sentences.test("Promise 13", "THE CHOICE is made (THE PLACES are no more, then)", () -> Scores.chord(60, 67)
            .solves()
            .due(0, "loose").due(200000, "choose").due(STATE, "loose", "energy", "place 0 0", "move 0 0", "near 0 0")
            .due(0, "chosen 0", "pure 0 7"));
        Sentences.test("Promise 13", "its COST, again and of a note alone", () -> Scores.chord(60)
            .due(0, "choose", "choose", "chosen 0"));
    }

    private static void chosen() {
        Sentences.test("Promise 14", "NONE: there is no CHOICE", () -> threeSets().due(NONE, "chosen 0", "chosen 2")
            .does("choose").due(0, "chosen 0", "chosen 2").does("weight 0 1").due(NONE, "chosen 0", "chosen 2"));
        Sentences.test("Promise 14", "BAD", () -> threeSets().does("choose")
            .due(BAD, "chosen -1", "chosen 3", "chosen 31", "chosen " + LOW, "chosen " + HIGH));
        Sentences.test("Promise 14", "BAD, also without a CHOICE", () -> threeSets().due(BAD, "chosen -1", "chosen 3")
            .does("clear").due(BAD, "chosen 0"));
        Sentences.test("Promise 14", "The reading of a set, of the last of 31", () -> Scores.longest()
            .lists(1, 7, 5, 16, 15)
            .does("weight 1 0", "choose").due(0, "chosen 30").due(1, "chosen 29", "chosen 1").due(0, "chosen 0")
            .due(BAD, "chosen 31"));
    }
}
