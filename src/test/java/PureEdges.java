/** Part 5 of 'Terms', PURE, and promises 23 and 24. */
final class PureEdges {
    private static final int BAD = Run.BAD, STATE = Run.STATE, NONE = Run.NONE;
    private static final int LOW = Run.LOW, HIGH = Run.HIGH;
    private static final String PART = "5 PURE";
    /** SIZE of 36/35, by which the C of pumping() rises each time. */
    private static final int RISE = 2 * 120000 + 2 * 190196 - 278631 - 336883;

    private PureEdges() { }

    static void all() {
        chains();
        shifts();
        drifts();
        pumps();
        pure();
        pump();
    }

    private static void dueShift(Run run, int set, int... powers) {
        for (int i = 0; i < powers.length; i++) {
            run.due(powers[i], "pure " + set + " " + i);
        }
    }

    private static void chains() {
        Sentences.test(PART, "Set 0 begins a CHAIN", () -> Scores.chord(60, 67).does("choose").due(0, "pure 0 6"));
        Sentences.test(PART, "set k + 1 goes on with that of k if there is a note COMMON to both", () -> Scores
            .score(60, 0, 2, 64, 1, 3, 67, 2, 4).does("choose").due(0, "pure 1 6", "pure 2 6", "pure 3 6"));
        Sentences.test(PART, "else it begins one: over a silence", () -> Scores.score(60, 0, 1, 60, 2, 4, 64, 3, 4)
            .does("choose")
            .due(0, "pure 0 6").due(1, "pure 1 6", "pure 2 6"));
        Sentences.test(PART, "else it begins one: all notes change at once", () ->
            Scores.score(60, 0, 2, 64, 0, 2, 60, 2, 4, 64, 2, 4)
            .does("choose").due(0, "pure 0 6").due(1, "pure 1 6"));
        Sentences.test(PART, "else it begins one: once more", () ->
            Scores.score(60, 0, 2, 67, 1, 2, 60, 2, 4, 67, 3, 4, 60, 5, 6)
            .does("choose").due(0, "pure 1 6").due(2, "pure 2 6", "pure 3 6").due(4, "pure 4 6"));
        Sentences.test(PART, "goes on through 31 sets", () -> Scores.longest().does("choose").due(0, "pure 30 6"));
    }

    private static void shifts() {
        Sentences.test(PART, "The SHIFT of a set that begins one is 1/1: set 0", () -> dueShift(
            Scores.chord(67, 60, 64).does("choose"), 0, 0, 0, 0, 0, 0, 0));
        Sentences.test(PART, "The SHIFT of a set that begins one is 1/1: a later one", () -> dueShift(
            Scores.score(60, 0, 1, 67, 0, 2, 64, 2, 3).does("choose").due(1, "pure 1 1")
                .due(2, "pure 2 6"), 2, 0, 0, 0, 0, 0, 0));
        Sentences.test(PART, "The SHIFT of a set that begins one is 1/1: one that went on before", () -> dueShift(
            Scores.score(60, 0, 1, 66, 0, 2).lists(6, 182, 165).does("choose").due(1, "pure 1 0", "pure 1 5").does("clear")
                .notes(60, 0, 1, 66, 1, 2).does("choose"), 1, 0, 0, 0, 0, 0, 0));
        Sentences.test(PART, "the first COMMON note (by numbers): 64", () -> dueShift(
            Scores.score(64, 0, 2, 60, 0, 2, 55, 1, 2).lists(9, 27, 16).does("choose"), 1, 2, -3, 1, 0, 0, 0));
        Sentences.test(PART, "the first COMMON note (by numbers): 60", () -> dueShift(
            Scores.score(60, 0, 2, 64, 0, 2, 55, 1, 2).lists(9, 27, 16).does("choose"), 1, -2, 1, 0, 0, 0, 0));
        Sentences.test(PART, "the first COMMON note: not one that ends", () -> dueShift(
            Scores.score(64, 0, 1, 67, 0, 2, 60, 0, 1).does("choose"), 1, -1, 1, 0, 0, 0, 0));
        Sentences.test(PART, "the ratio in k, with its octaves: 11, 12, 13 KEYS", () -> {
            dueShift(Scores.score(60, 0, 1, 71, 0, 2).does("choose"), 1, -3, 1, 1, 0, 0, 0);
            dueShift(Scores.score(60, 0, 1, 72, 0, 2).does("choose"), 1, 1, 0, 0, 0, 0, 0);
            dueShift(Scores.score(60, 0, 1, 73, 0, 2).does("choose"), 1, 1 + 4, -1, -1, 0, 0, 0);
        });
        Sentences.test(PART, "by that in k + 1, with its octaves: 11, 12, 13 KEYS", () -> {
            dueShift(Scores.score(71, 0, 2, 60, 1, 2).does("choose"), 1, 3, -1, -1, 0, 0, 0);
            dueShift(Scores.score(72, 0, 2, 60, 1, 2).does("choose"), 1, -1, 0, 0, 0, 0, 0);
            dueShift(Scores.score(73, 0, 2, 60, 1, 2).does("choose"), 1, -1 - 4, 1, 1, 0, 0, 0);
        });
        Sentences.test(PART, "the KEY 127 above the KEY 0", () -> dueShift(
            Scores.score(0, 0, 1, 127, 0, 2).does("choose"), 1, 10 - 1, 1, 0, 0, 0, 0));
        Sentences.test(PART, "7, 11, 13 too", () -> dueShift(
            Scores.score(60, 0, 1, 66, 0, 2).lists(6, 143, 98).does("choose"), 1, -1, 0, 0, -2, 1, 1));
        Sentences.test(PART, "by THE CHOICE", () -> dueShift(
            Scores.score(60, 0, 1, 67, 0, 2).lists(7, 40, 27, 3, 2).does("choose")
                .due(1, "chosen 0"), 1, -1, 1, 0, 0, 0, 0));
    }

    private static void drifts() {
        Sentences.test(PART, "DRIFT of a set that begins a chain", () -> Scores.score(127, 0, 1, 0, 1, 2).does("choose")
            .due(0, "pure 0 7", "pure 1 7"));
        Sentences.test(PART, "DRIFT: SIZE of its SHIFT, less the KEYS: down", () -> Scores.score(60, 0, 2, 55, 1, 2)
            .does("choose")
            .due(190196 - 2 * 120000 + 50000, "pure 1 7"));
        Sentences.test(PART, "DRIFT: SIZE of its SHIFT, less the KEYS: up", () -> Scores.score(60, 0, 1, 71, 0, 2)
            .does("choose")
            .due(190196 + 278631 - 3 * 120000 - 110000, "pure 1 7"));
        Sentences.test(PART, "DRIFT: octaves have none", () -> Scores.score(0, 0, 1, 120, 0, 2).does("choose")
            .due(0, "pure 1 7"));
        Sentences.test(PART, "DRIFT: the BASE of the set that began the chain, not of set 0", () -> Scores
            .score(40, 0, 1, 60, 5, 7, 55, 6, 7).does("choose").due(190196 - 2 * 120000 + 50000, "pure 2 7"));
        Sentences.test(PART, "DRIFT: the set that began the chain, not the one before", () -> Scores
            .score(60, 0, 2, 55, 1, 3, 50, 2, 3).does("choose").due(2 * (190196 - 2 * 120000 + 50000), "pure 2 7"));
    }

    /** C, A minor, C, A minor, C, where the G of the A minor is 7/4: each C is 36/35 higher. */
    private static Run pumping() {
        return Scores.score(60, 0, 1, 67, 0, 2, 57, 1, 2, 64, 1, 3, 60, 2, 3, 67, 2, 4, 57, 3, 4, 64, 3, 5, 60, 4, 5)
            .lists(10, 7, 4).does("choose");
    }

    private static void duePump(Run run, int i, int k, int l, int drift) {
        run.due(k, "pump " + i + " 0").due(l, "pump " + i + " 1").due(drift, "pump " + i + " 2");
    }

    private static void pumps() {
        Sentences.test(PART, "PUMPS are all pairs of sets k < l .. by l, then by k", () -> {
            Run run = pumping();
            duePump(run, 0, 0, 2, RISE);
            duePump(run, 1, 1, 3, RISE);
            duePump(run, 2, 0, 4, 2 * RISE);
            duePump(run, 3, 2, 4, RISE);
            run.due(NONE, "pump 4 0", "pump 4 1", "pump 4 2");
        });
        Sentences.test(PART, "PUMPS: of one chain", () -> duePumpsUpToFour(pumping().notes(60, 6, 7)));
        Sentences.test(PART, "PUMPS: other DRIFTS: like ones are none", () -> Scores.score(60, 0, 4, 64, 1, 2, 67, 3, 4)
            .does("choose").due(4, "sets").due(NONE, "pump 0 0"));
        Sentences.test(PART, "PUMPS: with BASES of one KEY: others are none", () -> {
            Scores.score(60, 0, 2, 55, 1, 2).does("choose").due(196, "pure 1 7").due(NONE, "pump 0 0");
            duePumpsUpToFour(pumping().notes(76, 4, 6, 52, 5, 6).does("choose").due(2 * RISE - 1369, "pure 5 7")
                .due(0, "pure 5 6"));
        });
        Sentences.test(PART, "PUMPS: in a chain that is not the first", () -> {
            Run run = Scores.score(60, 0, 1, 60, 5, 6, 67, 5, 7, 57, 6, 7, 64, 6, 8, 60, 7, 8).lists(10, 7, 4)
                .does("choose");
            duePump(run, 0, 1, 3, RISE);
            run.due(NONE, "pump 1 0");
        });
    }

    private static void duePumpsUpToFour(Run run) {
        run.does("choose").due(2, "pump 3 0").due(NONE, "pump 4 0");
    }

    private static void pure() {
        Sentences.test("Promise 23", "BAD: no such set", () -> pumping()
            .due(BAD, "pure -1 0", "pure 5 0", "pure -1 7", "pure 5 7",
            "pure 31 0", "pure " + LOW + " 0", "pure " + HIGH + " 0").due(0, "pure 0 0").due(2 * RISE, "pure 4 7"));
        Sentences.test("Promise 23", "BAD: another what", () -> pumping().due(BAD, "pure 0 -1", "pure 0 8", "pure 4 8",
            "pure 0 " + LOW, "pure 0 " + HIGH).due(4, "pure 4 0").due(2 * RISE, "pure 4 7"));
        Sentences.test("Promise 23", "STATE: there is no CHOICE", () -> Scores.chord(60)
            .due(STATE, "pure 0 0", "pure 0 6", "pure 0 7")
            .does("choose").due(0, "pure 0 0").does("weight 0 0").due(STATE, "pure 0 0", "pure 0 6", "pure 0 7"));
        Sentences.test("Promise 23", "also without PLACES", () -> pumping().due(STATE, "loose").due(RISE, "pure 2 7"));
        Sentences.test("Promise 23", "0 .. 5 the power, 6 the set that began its chain, 7 its DRIFT", () -> {
            Run run = pumping();
            dueShift(run, 1, 1, 1, 0, -1, 0, 0);
            dueShift(run, 4, 4, 4, -2, -2, 0, 0);
            run.due(0, "pure 4 6").due(2 * RISE, "pure 4 7").notes(60, 9, 10).does("choose").due(5, "pure 5 6")
                .due(0, "pure 5 7");
        });
    }

    private static void pump() {
        Sentences.test("Promise 24", "NONE: none such", () -> pumping().due(2, "pump 3 0").due(NONE, "pump 4 0", "pump 4 2",
            "pump 5 0", "pump " + HIGH + " 0", "pump " + HIGH + " 2"));
        Sentences.test("Promise 24", "NONE: there are no pumps at all", () -> Scores.chord(60, 67).does("choose")
            .due(NONE, "pump 0 0", "pump 0 1", "pump 0 2", "pump 1 0"));
        Sentences.test("Promise 24", "BAD: another what", () -> pumping().due(BAD, "pump 0 -1", "pump 0 3", "pump 0 " + LOW,
            "pump 0 " + HIGH, "pump 4 3", "pump 4 -1").due(0, "pump 0 0").due(RISE, "pump 0 2"));
        Sentences.test("Promise 24", "BAD: i below 0", () -> pumping()
            .due(BAD, "pump -1 0", "pump -1 2", "pump " + LOW + " 0"));
        Sentences.test("Promise 24", "STATE", () -> pumping().due(0, "pump 0 0").does("bind 0 off")
            .due(STATE, "pump 0 0", "pump 0 2", "pump 99 0").does("choose").due(0, "pump 0 0").does("clear")
            .due(STATE, "pump 0 0"));
    }
}
