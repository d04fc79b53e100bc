/** Promises 18 to 22: the places as numbers and as THE TEXT. */
final class TextEdges {
    private static final int BAD = Run.BAD, STATE = Run.STATE, NONE = Run.NONE;
    private static final int LOW = Run.LOW, HIGH = Run.HIGH;

    private TextEdges() { }

    static void all() {
        place();
        anyLength();
        move();
        energy();
        near();
        text();
        for (String call : new String[] {"place", "move", "near"}) {
            refusals(call.equals("place") ? "Promise 18" : call.equals("move") ? "Promise 19" : "Promise 21", call);
        }
    }

    /** A fifth is 196 too wide: each note moves by 196 H / (S + 2 H). */
    private static Run fifth(int low, int h, int s) {
        return Scores.chord(low, low + 7).weighs(0, 0, h, 0, s).solves();
    }

    /** Two notes of KEY 0 are read as 9801/9800, which is 20: each moves by 20 H / (S + 2 H). */
    private static Run closeToZero(int h, int s) {
        return Scores.chord(0, 0).lists(0, 9801, 9800).weighs(0, 0, h, 0, s).solves();
    }

    private static void place() {
        Sentences.test("Promise 18", "as a fraction in lowest terms", () -> fifth(60, 4, 2)
            .dueText("3350392/5", "place 0 1")
            .dueText("2999608/5", "place 0 0"));
        Sentences.test("Promise 18", "behind it / and the denominator, if that is not 1", () -> fifth(60, 3, 1)
            .dueText("670084", "place 0 1").dueText("599916", "place 0 0"));
        Sentences.test("Promise 18", "- ahead if it is below 0: a fraction", () -> fifth(0, 4, 1)
            .dueText("-784/9", "place 0 0"));
        Sentences.test("Promise 18", "- ahead if it is below 0: a whole number", () -> fifth(0, 3, 1)
            .dueText("-84", "place 0 0"));
        Sentences.test("Promise 18", "- ahead if it is below 0: less than 1 below it", () -> closeToZero(1, 99)
            .dueText("-20/101", "place 0 0").dueText("20/101", "place 0 1"));
        Sentences.test("Promise 18", "0 is one digit without - and /", () -> Scores.chord(0).solves()
            .dueText("0", "place 0 0"));
        Sentences.test("Promise 18", "0 that is a move from EQUAL", () -> Scores.chord(11, 0).lists(11, 1, 1)
            .does("weight 4 0")
            .solves().dueText("0", "place 0 0").dueText("-110000", "move 0 0"));
        Sentences.test("Promise 18", "the place of a note in a set, each of its sets", () ->
            Scores.score(60, 0, 2, 67, 0, 1)
            .does("weight 3 0").solves().dueText("5399216/9", "place 0 0").dueText("600000", "place 1 0"));
        Sentences.test("Promise 18", "the KEY 127", () -> Scores.chord(120, 127).solves()
            .dueText("11430784/9", "place 0 1"));
    }

    /** The numbers were found with Python's fractions. */
    private static void anyLength() {
        Sentences.test("What it is", "as fractions of any length: 20 variables", () -> Scores.twentyVariables()
            .weighs(100000, 1, 97, 98, 99).solves()
            .dueText("506603947286420662418550441/1055051938141510851287", "place 0 0")
            .dueText("674478025565816094554711454/1055051938141510851287", "place 4 7")
            .dueText("-755214844750850268968546/1055051938141510851287", "move 4 7").due(639284, "near 4 7")
            .dueText("1152472453980723543494226802644/1055051938141510851287", "energy"));
        Sentences.test("What it is", "as fractions of any length: 31 sets", () -> {
            Run run = Scores.longest().weighs(100000, 1, 97, 98, 89);
            for (int note = 0; note < 16; note++) {
                run.does("bind " + note + " on");
            }
            run.solves().dueText("1850737738369257084496519732233983199859332552866989257371/"
                + "3084825938830533541430062524427503016018926672337002", "place 0 0")
                .dueText("4622555045834000696157090933602244939035635428810669951673/"
                + "6169651877661067082860125048855006032037853344674004", "place 30 15").due(749241, "near 30 15")
                .dueText("383857906488531677805812086373957887140270777425500680004484983/"
                + "6169651877661067082860125048855006032037853344674004", "energy");
        });
    }

    private static void move() {
        Sentences.test("Promise 19", "the place less EQUAL, likewise: lowest terms", () -> fifth(60, 4, 2)
            .dueText("392/5", "move 0 1").dueText("-392/5", "move 0 0"));
        Sentences.test("Promise 19", "likewise: a whole number", () -> fifth(60, 3, 1).dueText("84", "move 0 1")
            .dueText("-84", "move 0 0"));
        Sentences.test("Promise 19", "likewise: less than 1", () -> closeToZero(1, 99).dueText("-20/101", "move 0 0")
            .dueText("20/101", "move 0 1"));
        Sentences.test("Promise 19", "likewise: 0", () -> fifth(60, 0, 1).dueText("0", "move 0 0")
            .dueText("0", "move 0 1"));
    }

    private static void energy() {
        Sentences.test("Promise 20", "the least ENERGY, likewise: 0", () -> fifth(60, 1, 0).dueText("0", "energy"));
        Sentences.test("Promise 20", "likewise: a whole number", () -> fifth(60, 3, 1).dueText("16464", "energy"));
        Sentences.test("Promise 20", "likewise: a fraction in lowest terms", () -> fifth(60, 4, 2)
            .dueText("153664/5", "energy"));
        Sentences.test("Promise 20", "STATE", () -> Scores.chord(60, 67).due(STATE, "energy").does("choose")
            .due(STATE, "energy")
            .does("solve", "energy", "weight 4 1").due(STATE, "energy").solves().does("energy", "choose")
            .due(STATE, "energy"));
    }

    private static void near() {
        Sentences.test("Promise 21", "a whole number stays", () -> {
            fifth(60, 3, 1).due(670084, "near 0 1").due(599916, "near 0 0");
            fifth(0, 3, 1).due(-84, "near 0 0");
        });
        Sentences.test("Promise 21", "(a half up), above 0", () -> fifth(60, 1, 6).due(670025, "near 0 1")
            .due(599976, "near 0 0"));
        Sentences.test("Promise 21", "(a half up), below 0", () -> fifth(0, 1, 6).due(-24, "near 0 0")
            .due(70025, "near 0 1"));
        Sentences.test("Promise 21", "(a half up), of 1/2 and -1/2", () -> closeToZero(1, 38).dueText("-1/2", "place 0 0")
            .due(0, "near 0 0").due(1, "near 0 1"));
        Sentences.test("Promise 21", "less than a half, on both sides of 0", () -> closeToZero(1, 39)
            .dueText("-20/41", "place 0 0")
            .due(0, "near 0 0", "near 0 1"));
        Sentences.test("Promise 21", "more than a half, on both sides of 0", () -> closeToZero(1, 37)
            .dueText("-20/39", "place 0 0")
            .due(-1, "near 0 0").due(1, "near 0 1"));
        // 1176/13 is 90 and 6/13.
        Sentences.test("Promise 21", "less than a half, far from 0", () -> {
            fifth(60, 6, 1).due(670090, "near 0 1").due(599910, "near 0 0");
            fifth(0, 6, 1).due(-90, "near 0 0");
        });
        // 196/11 is 17 and 9/11.
        Sentences.test("Promise 21", "more than a half, far from 0", () -> {
            fifth(60, 1, 9).due(670018, "near 0 1").due(599982, "near 0 0");
            fifth(0, 1, 9).due(-18, "near 0 0");
        });
        Sentences.test("Promise 21", "THE TEXT stays", () -> fifth(60, 3, 1).dueText("84", "move 0 1").does("near 0 0")
            .dueText("84"));
    }

    private static void refusals(String promise, String call) {
        Sentences.test(promise, call + " BAD: no such set", () -> twoSets()
            .due(BAD, call + " -1 0", call + " 2 0", call + " " + LOW + " 0", call + " " + HIGH + " 0")
            .does(call + " 1 2"));
        Sentences.test(promise, call + " BAD: no such note", () -> twoSets()
            .due(BAD, call + " 0 -1", call + " 0 3", call + " 0 16", call + " 0 " + LOW, call + " 0 " + HIGH)
            .does(call + " 0 0"));
        Sentences.test(promise, call + " BAD: a note that does not sound there", () -> twoSets()
            .due(BAD, call + " 0 2", call + " 1 0", call + " 1 1").does("bind 0 on").solves().due(BAD, call + " 1 0"));
        Sentences.test(promise, call + " STATE", () -> Scores.chord(60, 67).due(STATE, call + " 0 1").does("choose")
            .due(STATE, call + " 0 1").does("solve", call + " 0 1", "weight 4 1").due(STATE, call + " 0 1")
            .solves().does(call + " 0 1", "choose").due(STATE, call + " 0 1"));
        Sentences.test(promise, call + " of the last set and note", () -> Scores.sixteen().solves().does(call + " 15 15")
            .due(BAD, call + " 16 15", call + " 15 16"));
    }

    /** Places are above 0, so that a call that is not refused answers no number below 0. */
    private static Run twoSets() {
        return Scores.score(60, 0, 1, 67, 0, 1, 72, 1, 2).solves();
    }

    private static void text() {
        Sentences.test("Promise 22", "NONE: there is no TEXT yet", () -> fifth(60, 4, 1).due(NONE, "text 0", "text -1"));
        Sentences.test("Promise 22", "Byte i of THE TEXT, the first and the last", () -> fifth(60, 4, 1).due(6, "move 0 0")
            .due('-', "text 0").due('7', "text 1").due('/', "text 4").due('9', "text 5"));
        Sentences.test("Promise 22", "NONE: before and behind it", () -> fifth(60, 4, 1).due(6, "move 0 0")
            .due(NONE, "text -1", "text 6", "text 7", "text 255", "text 256", "text " + LOW, "text " + HIGH));
        Sentences.test("Promise 22", "a shorter TEXT leaves nothing of a longer one", () -> fifth(60, 4, 1)
            .dueText("5399216/9", "place 0 0").dueText("784/9", "move 0 1").due(NONE, "text 5", "text 8"));
        Sentences.test("Promise 22", "THE TEXT stays where a call is refused", () -> fifth(60, 4, 1)
            .dueText("784/9", "move 0 1")
            .due(BAD, "place 0 2", "move 1 0").dueText("784/9").does("choose").due(STATE, "place 0 0", "move 0 0", "energy")
            .dueText("784/9"));
        Sentences.test("Promise 22", "THE TEXT stays where notes, ratios, weights change", () -> fifth(60, 4, 1)
            .dueText("784/9", "move 0 1")
            .does("weight 0 0", "empty 0", "bind 0 on", "note 60 9 10", "choose", "solve", "clear")
            .dueText("784/9"));
    }
}
