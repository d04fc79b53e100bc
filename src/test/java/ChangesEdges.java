/** Promises 1 to 7: a new object, and the calls that change it. */
final class ChangesEdges {
    private static final int BAD = Run.BAD, STATE = Run.STATE, FULL = Run.FULL, NONE = Run.NONE;
    private static final int LOW = Run.LOW, HIGH = Run.HIGH;

    private ChangesEdges() { }

    static void all() {
        newObject();
        noteIsBad();
        noteIsFull();
        noteIsTaken();
        clear();
        bind();
        ratioIsBad();
        ratioIsTaken();
        empty();
        weight();
    }

    private static void newObject() {
        Sentences.test("Promise 1", "No notes", () -> new Run().due(0, "sets", "clear").due(BAD, "bind 0 on", "set 0 0")
            .due(STATE, "choose", "solve", "loose", "energy", "pump 0 0").due(NONE, "text 0"));
        Sentences.test("Promise 1", "the first ratios", () -> {
            for (int type = 0; type < 12; type++) {
                new Run().due(1, "empty " + type).due(0, "empty " + type);
            }
        });
        Sentences.test("Promise 1", "weights A 100000, B 1, H 4, M 2, S 1", () -> new Run().due(100000, "weight 0 0")
            .due(1, "weight 1 0").due(4, "weight 2 0").due(2, "weight 3 0").due(1, "weight 4 0"));
        Sentences.test("Promise 1", "A new object has nothing of one made before", () -> {
            Scores.withPlaces().weighs(7, 7, 7, 7, 7).does("empty 0", "ratio 4 9 7");
            new Run().due(0, "sets").due(NONE, "text 0").due(100000, "weight 0 0").due(1, "empty 0", "empty 4");
        });
    }

    private static void noteIsBad() {
        Sentences.test("Promise 2", "BAD: key is not 0 .. 127", () -> new Run()
            .due(BAD, "note -1 0 1", "note 128 0 1", "note " + LOW + " 0 1", "note " + HIGH + " 0 1")
            .due(0, "sets", "note 0 0 1").due(1, "note 127 0 1"));
        Sentences.test("Promise 2", "BAD: from not 0 .. 9998", () -> new Run()
            .due(BAD, "note 60 -1 1", "note 60 9999 10000", "note 60 9999 9999", "note 60 " + LOW + " 1",
                "note 60 " + HIGH + " " + LOW)
            .due(0, "sets", "note 60 0 1").due(1, "note 60 9998 9999"));
        Sentences.test("Promise 2", "BAD: to not from + 1 ..", () -> new Run()
            .due(BAD, "note 60 5 5", "note 60 5 4", "note 60 5 -1", "note 60 5 " + LOW, "note 60 0 0")
            .due(0, "sets", "note 60 5 6"));
        Sentences.test("Promise 2", "BAD: to not .. 9999", () -> new Run()
            .due(BAD, "note 60 5 10000", "note 60 9998 10000", "note 60 5 " + HIGH)
            .due(0, "sets", "note 60 5 9999").due(9999, "set 0 1"));
    }

    private static void noteIsFull() {
        Sentences.test("Promise 2", "FULL: there are 16", () -> Scores.sixteen().due(FULL, "note 60 16 17", "note 60 0 1")
            .due(16, "clear").due(0, "note 60 16 17"));
        Sentences.test("Promise 2", "FULL: the sixteenth is taken", () -> {
            Run run = new Run();
            for (int i = 0; i < 16; i++) {
                run.due(i, "note 60 " + i + " " + (i + 1));
            }
            run.due(FULL, "note 60 16 17");
        });
        Sentences.test("Promise 2", "FULL: six may sound, seven not", () -> Scores.chord(60, 60, 60, 60, 60)
            .due(5, "note 60 0 4").due(FULL, "note 60 0 4", "note 60 1 2"));
        Sentences.test("Promise 2", "FULL: at some tick, the last one of the new note", () -> sixFromFive()
            .due(FULL, "note 60 0 6").due(6, "note 60 0 5"));
        Sentences.test("Promise 2", "FULL: at some tick, the first one of the new note", () -> sixFromFive()
            .due(FULL, "note 60 7 20").due(6, "note 60 8 20"));
        Sentences.test("Promise 2", "FULL: at some tick, amid the new note", () -> sixFromFive()
            .due(FULL, "note 60 0 20", "note 60 4 9"));
        Sentences.test("Promise 2", "FULL: at some tick, at which the first note begins as the sixth", () -> Scores
            .score(60, 5, 6, 60, 3, 8, 60, 3, 8, 60, 3, 8, 60, 3, 8, 60, 3, 8).due(FULL, "note 60 0 9", "note 60 4 6")
            .due(6, "note 60 0 5").due(7, "note 60 6 9"));
        Sentences.test("Promise 2", "FULL: at one tick alone", () -> Scores
            .score(60, 0, 9, 60, 1, 8, 60, 2, 7, 60, 3, 6, 60, 0, 9, 60, 4, 5)
            .due(FULL, "note 60 0 9", "note 60 4 5", "note 60 3 5", "note 60 4 9").due(6, "note 60 0 4")
            .due(7, "note 60 5 9"));
        Sentences.test("Promise 2", "FULL: more than six in all, never at one tick", () -> Scores
            .chord(60, 60, 60, 60, 60, 60).due(6, "note 60 4 8").due(7, "note 60 5 8"));
    }

    /** Six notes sound from tick 5 to before tick 8. */
    private static Run sixFromFive() {
        return Scores.score(60, 5, 8, 61, 5, 8, 62, 5, 8, 63, 5, 8, 64, 5, 8, 65, 5, 8);
    }

    private static void noteIsTaken() {
        Sentences.test("Promise 2", "A note, not BOUND", () -> Scores.score(60, 0, 2, 64, 0, 1).does("bind 0 on", "clear")
            .notes(60, 0, 2, 64, 0, 1).due(2, "variable 1 0").due(0, "bind 0 off"));
        Sentences.test("Promise 2", "its number", () -> new Run().due(0, "note 60 9 10").due(1, "note 60 0 1")
            .due(BAD, "note 60 0 0").due(2, "note 60 0 1").due(3, "clear").due(0, "note 60 0 1"));
    }

    private static void clear() {
        Sentences.test("Promise 3", "No notes: how many there were: none", () -> new Run()
            .due(0, "clear", "clear", "sets"));
        Sentences.test("Promise 3", "No notes: how many there were: 16", () -> Scores.sixteen().due(16, "clear")
            .due(0, "sets", "clear").due(BAD, "set 0 0", "sounds 0 0", "bind 0 on", "variable 0 0", "chosen 0"));
        Sentences.test("Promise 3", "No notes, but ratios, weights and THE TEXT stay", () -> Scores.chord(60, 67)
            .does("ratio 4 9 7", "empty 6", "weight 1 3").solves().dueText("784/9", "move 0 1").due(2, "clear")
            .dueText("784/9").due(3, "weight 1 1").due(2, "empty 4").due(0, "empty 6").due(1, "empty 7"));
    }

    private static void bind() {
        Sentences.test("Promise 4", "1 if it was, else 0", () -> Scores.chord(60, 67).due(0, "bind 0 on")
            .due(1, "bind 0 on", "bind 0 off").due(0, "bind 0 off", "bind 1 on").due(1, "bind 1 off"));
        Sentences.test("Promise 4", "BAD", () -> Scores.chord(60, 67)
            .due(BAD, "bind -1 on", "bind 2 on", "bind 2 off", "bind 16 on", "bind " + LOW + " on", "bind " + HIGH + " off")
            .due(0, "bind 0 on", "bind 1 on").notes(60, 0, 1).due(0, "bind 2 on").does("clear").due(BAD, "bind 0 on"));
        Sentences.test("Promise 4", "BAD: the note 15 and none behind it", () -> Scores.sixteen().due(0, "bind 15 on")
            .due(1, "bind 15 off").due(BAD, "bind 16 on"));
    }

    private static void ratioIsBad() {
        Sentences.test("Promise 5", "BAD: no CLASS", () -> new Run()
            .due(BAD, "ratio -1 7 5", "ratio 12 7 5", "ratio " + LOW + " 7 5", "ratio " + HIGH + " 7 5")
            .due(1, "ratio 0 7 5", "ratio 11 7 5"));
        Sentences.test("Promise 5", "BAD: up, down not 1 .. 9999: too small", () -> new Run().does("empty 0")
            .due(BAD, "ratio 0 0 1", "ratio 0 1 0", "ratio 0 0 0", "ratio 0 -3 -2", "ratio 0 -1 -1", "ratio 0 3 -2",
                "ratio 0 -3 2", "ratio 0 " + LOW + " " + LOW, "ratio 0 1 " + LOW).due(0, "ratio 0 1 1"));
        // 9984 is the greatest that is taken: none of 9985 to 9999 has small primes alone.
        Sentences.test("Promise 5", "BAD: up, down not 1 .. 9999: too great", () -> new Run()
            .due(BAD, "ratio 0 10000 9801", "ratio 0 10648 10125", "ratio 0 10125 8192", "ratio 0 " + HIGH + " " + HIGH,
                "ratio 0 1073741824 1073741823", "ratio 0 3 1073741826").due(1, "ratio 0 9984 9625"));
        Sentences.test("Promise 5", "BAD: up is below down", () -> new Run().does("empty 0")
            .due(BAD, "ratio 0 15 16", "ratio 0 1 2", "ratio 0 9800 9801", "ratio 0 1 9984").due(0, "ratio 0 1 1")
            .due(1, "ratio 0 16 15"));
        Sentences.test("Promise 5", "BAD: 2 * down or more", () -> new Run()
            .due(BAD, "ratio 0 2 1", "ratio 0 3 1", "ratio 0 9 4", "ratio 0 15 7", "ratio 0 9984 1", "ratio 0 9984 4375")
            .due(1, "ratio 0 13 7").due(2, "ratio 0 4095 2048"));
        Sentences.test("Promise 5", "BAD: not in lowest terms", () -> new Run().does("empty 0")
            .due(BAD, "ratio 0 2 2", "ratio 0 6 4", "ratio 0 12 9", "ratio 0 25 20", "ratio 0 49 42", "ratio 0 121 110",
                "ratio 0 169 156", "ratio 0 9984 9984").due(0, "ratio 0 3 2"));
        Sentences.test("Promise 5", "BAD: a prime above 13", () -> new Run()
            .due(BAD, "ratio 0 17 16", "ratio 0 18 17", "ratio 0 19 18", "ratio 0 20 19", "ratio 0 289 288",
                "ratio 0 9973 9801", "ratio 0 9999 9998", "ratio 0 34 27", "ratio 0 27 23", "ratio 0 8192 5041")
            .due(1, "ratio 0 13 12").due(2, "ratio 0 14 13"));
        Sentences.test("Promise 5", "BAD: it is in the list", () -> new Run().due(BAD, "ratio 7 3 2")
            .due(1, "ratio 7 40 27")
            .due(BAD, "ratio 7 3 2", "ratio 7 40 27").due(2, "ratio 7 32 21")
            .due(BAD, "ratio 7 3 2", "ratio 7 40 27", "ratio 7 32 21").due(1, "ratio 6 3 2")
            .due(3, "empty 7").due(0, "ratio 7 40 27"));
        Sentences.test("Promise 5", "BAD: it is in the list, not one of its numbers alone", () -> new Run()
            .due(1, "ratio 1 16 13").due(2, "ratio 1 22 13").due(BAD, "ratio 1 16 15"));
    }

    private static void ratioIsTaken() {
        Sentences.test("Promise 5", "FULL: there are three", () -> new Run().due(1, "ratio 11 7 4").due(2, "ratio 11 13 7")
            .due(FULL, "ratio 11 9 5", "ratio 11 1 1").due(1, "ratio 10 9 7"));
        Sentences.test("Promise 5", "its number in the list", () -> new Run().does("empty 0").due(0, "ratio 0 81 80")
            .due(1, "ratio 0 1 1").due(2, "ratio 0 25 24").due(3, "empty 0").due(0, "ratio 0 25 24"));
    }

    private static void empty() {
        Sentences.test("Promise 6", "how many it had: 1, 0, 2, 3", () -> new Run().due(1, "empty 7").due(0, "empty 7")
            .does("ratio 7 3 2", "ratio 7 40 27").due(2, "empty 7").lists(7, 3, 2, 40, 27, 32, 21).due(3, "empty 7")
            .due(0, "empty 7"));
        Sentences.test("Promise 6", "The list of a CLASS is empty, no other one", () -> new Run().due(1, "empty 5")
            .due(1, "empty 4", "empty 6"));
        Sentences.test("Promise 6", "BAD", () -> new Run()
            .due(BAD, "empty -1", "empty 12", "empty " + LOW, "empty " + HIGH).due(1, "empty 0", "empty 11"));
    }

    private static void weight() {
        Sentences.test("Promise 7", "0 A (0 .. 1000000)", () -> weightUpTo(0, 1000000, 100000));
        Sentences.test("Promise 7", "1 B (0 .. 99)", () -> weightUpTo(1, 99, 1));
        Sentences.test("Promise 7", "2 H (0 .. 99)", () -> weightUpTo(2, 99, 4));
        Sentences.test("Promise 7", "3 M (0 .. 99)", () -> weightUpTo(3, 99, 2));
        Sentences.test("Promise 7", "4 S (0 .. 99)", () -> weightUpTo(4, 99, 1));
        Sentences.test("Promise 7", "BAD: no such weight", () -> new Run()
            .due(BAD, "weight -1 0", "weight 5 0", "weight " + LOW + " 0", "weight " + HIGH + " 0", "weight -1 -1"));
    }

    private static void weightUpTo(int what, int most, int first) {
        String call = "weight " + what + " ";
        new Run().due(BAD, call + -1, call + (most + 1), call + LOW, call + HIGH)
            .due(first, call + 0).due(0, call + most).due(BAD, call + (most + 1)).due(most, call + most, call + 1)
            .due(1, call + 0);
    }
}
