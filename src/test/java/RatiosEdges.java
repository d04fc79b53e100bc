/** Part 2 of 'Terms', RATIOS, and promises 11 and 12, which tell of readings. */
final class RatiosEdges {
    private static final int BAD = Run.BAD, STATE = Run.STATE, LOW = Run.LOW, HIGH = Run.HIGH;
    private static final String PART = "2 RATIOS";

    private RatiosEdges() { }

    static void all() {
        lists();
        sizes();
        harshOfRatios();
        bases();
        readings();
        numbers();
        targets();
        harshOfReadings();
        reading();
        harsh();
    }

    private static void lists() {
        Sentences.test(PART, "At first one each", () -> {
            int[] first = {1, 1, 16, 15, 9, 8, 6, 5, 5, 4, 4, 3, 45, 32, 3, 2, 8, 5, 5, 3, 9, 5, 15, 8};
            for (int type = 0; type < 12; type++) {
                Scores.chord(60, 60 + type).due(1, "set 0 4").due(first[2 * type], "reading 0 0 1 0")
                    .due(first[2 * type + 1], "reading 0 0 1 1").due(BAD, "reading 0 1 1 0");
            }
        });
        Sentences.test(PART, "a list of ratios up / down, three at most", () -> Scores.chord(60, 67)
            .lists(7, 3, 2, 40, 27, 32, 21).due(3, "set 0 4").due(3, "reading 0 0 1 0").due(40, "reading 0 1 1 0")
            .due(32, "reading 0 2 1 0").due(21, "reading 0 2 1 1").due(BAD, "reading 0 3 1 0"));
    }

    private static void sizes() {
        Sentences.test(PART, "SIZE: 1/1 has no primes", () -> dueSize(0, 1, 1));
        Sentences.test(PART, "SIZE: LOG of 2, each as often as it is one, 3 of down", () ->
            dueSize(13 * 120000 - 8 * 190196, 8192, 6561));
        Sentences.test(PART, "SIZE: LOG of 3", () -> dueSize(8 * 190196 - 12 * 120000, 6561, 4096));
        Sentences.test(PART, "SIZE: LOG of 5", () -> dueSize(5 * 278631 - 11 * 120000, 3125, 2048));
        Sentences.test(PART, "SIZE: LOG of 7", () -> dueSize(4 * 336883 - 11 * 120000, 2401, 2048));
        Sentences.test(PART, "SIZE: LOG of 11", () -> dueSize(3 * 415132 - 10 * 120000, 1331, 1024));
        Sentences.test(PART, "SIZE: LOG of 13", () -> dueSize(3 * 444053 - 11 * 120000, 2197, 2048));
        Sentences.test(PART, "SIZE: less those of down: 5", () -> dueSize(12 * 120000 - 5 * 278631, 4096, 3125));
        Sentences.test(PART, "SIZE: less those of down: 7", () -> dueSize(12 * 120000 - 4 * 336883, 4096, 2401));
        Sentences.test(PART, "SIZE: less those of down: 11", () -> dueSize(11 * 120000 - 3 * 415132, 2048, 1331));
        Sentences.test(PART, "SIZE: less those of down: 13", () -> dueSize(12 * 120000 - 3 * 444053, 4096, 2197));
        Sentences.test(PART, "SIZE: the sum of all", () -> dueSize(20, 9801, 9800));
    }

    private static void dueSize(int size, int up, int down) {
        Scores.chord(60, 66).lists(6, up, down).due(size, "reading 0 0 1 2");
    }

    private static void harshOfRatios() {
        Sentences.test(PART, "HARSH of a ratio: of 1/1 and of octaves 0", () -> Scores.chord(60, 60, 72, 84)
            .due(0, "harsh 0 0"));
        Sentences.test(PART, "HARSH: p - 1 for all primes p of above", () -> {
            dueHarsh(2, 3, 2);
            dueHarsh(4, 5, 4);
            dueHarsh(6, 7, 4);
            dueHarsh(10, 11, 8);
            dueHarsh(12, 13, 8);
        });
        Sentences.test(PART, "HARSH: p - 1 for all primes p of below", () -> {
            dueHarsh(2, 4, 3);
            dueHarsh(4, 8, 5);
            dueHarsh(6, 8, 7);
            dueHarsh(10, 16, 11);
            dueHarsh(12, 16, 13);
        });
        Sentences.test(PART, "HARSH: each as often as it is one", () -> {
            dueHarsh(16, 6561, 4096);
            dueHarsh(36, 2197, 2048);
            dueHarsh(4 * 2 + 2 * 10 + 2 * 4 + 2 * 6, 9801, 9800);
        });
        Sentences.test(PART, "HARSH: it is brought to lowest terms", () -> Scores.chord(60, 62, 67)
            .due(2 + 4 + 2, "harsh 0 0"));
        Sentences.test(PART, "HARSH: brought to lowest terms, that is 1/1", () -> Scores.chord(60, 67, 79)
            .due(2 + 2, "harsh 0 0"));
    }

    private static void dueHarsh(int harsh, int up, int down) {
        Scores.chord(60, 66).lists(6, up, down).due(harsh, "harsh 0 0");
    }

    private static void bases() {
        Sentences.test(PART, "THE BASE: its note with the least KEY", () -> Scores.chord(61, 127, 0, 60).due(2, "set 0 2"));
        Sentences.test(PART, "THE BASE: of like ones the least number", () -> Scores.chord(61, 60, 60, 60)
            .due(1, "set 0 2"));
        Sentences.test(PART, "THE BASE of a set, not of all notes", () -> Scores.score(60, 0, 1, 64, 0, 2, 67, 1, 2)
            .due(0, "set 0 2").due(1, "set 1 2"));
    }

    private static void readings() {
        Sentences.test(PART, "for the BASE 1/1, whatever the list of CLASS 0 has", () -> Scores.chord(60, 60)
            .lists(0, 81, 80)
            .due(1, "reading 0 0 0 0", "reading 0 0 0 1").due(0, "reading 0 0 0 2")
            .due(81, "reading 0 0 1 0").due(80, "reading 0 0 1 1"));
        Sentences.test(PART, "for the BASE 1/1, also if the list of CLASS 0 is empty", () -> Scores.chord(60, 67)
            .does("empty 0")
            .due(1, "set 0 4", "reading 0 0 0 0").does("choose"));
        Sentences.test(PART, "a note with the KEY of the BASE has a ratio of CLASS 0", () -> Scores.chord(60, 60)
            .lists(0, 1, 1, 81, 80).due(2, "set 0 4").due(81, "reading 0 1 1 0").does("empty 0").due(0, "set 0 4"));
        Sentences.test(PART, "the CLASS (its KEY - that of the BASE) modulo 12", () -> {
            dueClass(11, 15, 8);
            dueClass(12, 1, 1);
            dueClass(13, 16, 15);
            dueClass(23, 15, 8);
            dueClass(24, 1, 1);
            dueClass(127, 3, 2);
        });
        Sentences.test(PART, "None, if a list that is wanted is empty", () -> Scores.chord(60, 64, 67).does("empty 7")
            .due(0, "set 0 4").due(BAD, "reading 0 0 0 0", "reading 0 0 1 0", "harsh 0 0").due(STATE, "choose")
            .does("ratio 7 3 2").due(1, "set 0 4"));
        Sentences.test(PART, "None: an empty list that is not wanted does nothing", () -> Scores.chord(60, 64, 67)
            .does("empty 0", "empty 1", "empty 11").due(1, "set 0 4").due(12, "harsh 0 0"));
    }

    private static void dueClass(int above, int up, int down) {
        Scores.chord(above, 0).due(up, "reading 0 0 0 0").due(down, "reading 0 0 0 1");
    }

    private static void numbers() {
        Sentences.test(PART, "with the first ratio for all it is 0", () -> twoEach(60, 64, 67)
            .due(5, "reading 0 0 1 0").due(3, "reading 0 0 2 0"));
        Sentences.test(PART, "with another one for the last note (by numbers) alone next", () -> twoEach(60, 64, 67)
            .due(5, "reading 0 1 1 0").due(40, "reading 0 1 2 0"));
        Sentences.test(PART, "the last note's ratio runs fastest", () -> twoEach(60, 64, 67)
            .due(81, "reading 0 2 1 0", "reading 0 3 1 0").due(3, "reading 0 2 2 0").due(40, "reading 0 3 2 0")
            .due(4, "set 0 4").due(BAD, "reading 0 4 1 0"));
        Sentences.test(PART, "by numbers, not by KEYS", () -> twoEach(60, 67, 64)
            .due(3, "reading 0 1 1 0").due(81, "reading 0 1 2 0"));
        Sentences.test(PART, "the last note is the BASE: the one before it runs fastest", () -> twoEach(64, 67, 60)
            .due(5, "reading 0 1 0 0").due(40, "reading 0 1 1 0").due(1, "reading 0 1 2 0").due(81, "reading 0 2 0 0"));
        Sentences.test(PART, "the BASE amid the notes", () -> twoEach(64, 60, 67)
            .due(5, "reading 0 1 0 0").due(1, "reading 0 1 1 0").due(40, "reading 0 1 2 0").due(81, "reading 0 2 0 0"));
        Sentences.test(PART, "the last of 243 readings has the last ratio for all", () -> {
            Run run = Scores.sixWith(3, 3, 3, 3, 3).due(BAD, "reading 0 243 0 0").due(1, "reading 0 242 0 0");
            for (int note = 1; note < 6; note++) {
                run.due(7, "reading 0 242 " + note + " 0").due(4, "reading 0 242 " + note + " 1");
            }
            run.due(5, "reading 0 241 5 1").due(4, "reading 0 241 4 1").due(4, "reading 0 161 5 1")
                .due(5, "reading 0 161 1 1");
        });
    }

    /** Three notes; the fifth and the third have two ratios each. */
    private static Run twoEach(int... keys) {
        return Scores.chord(keys).lists(4, 5, 4, 81, 64).lists(7, 3, 2, 40, 27);
    }

    private static void targets() {
        int seventh = 190196 + 278631 - 3 * 120000;
        Sentences.test(PART, "TARGET of the BASE", () -> Scores.chord(127, 127)
            .due(0, "reading 0 0 0 2", "reading 0 0 1 2"));
        Sentences.test(PART, "TARGET: / 12, cut off: 11, 12, 13", () -> {
            Scores.chord(60, 71).due(seventh, "reading 0 0 1 2");
            Scores.chord(60, 72).due(120000, "reading 0 0 1 2");
            Scores.chord(60, 73).due(120000 + 4 * 120000 - 190196 - 278631, "reading 0 0 1 2");
        });
        Sentences.test(PART, "TARGET: / 12, cut off: 23, 24", () -> {
            Scores.chord(60, 83).due(120000 + seventh, "reading 0 0 1 2");
            Scores.chord(60, 84).due(240000, "reading 0 0 1 2");
        });
        Sentences.test(PART, "TARGET of KEY 127 above KEY 0", () -> Scores.chord(127, 0)
            .due(1200000 + 70196, "reading 0 0 0 2"));
    }

    private static void harshOfReadings() {
        Sentences.test(PART, "HARSH of a reading: one note has no pair", () -> Scores.chord(60).due(0, "harsh 0 0"));
        Sentences.test(PART, "HARSH of a reading: two notes have one pair", () -> Scores.chord(60, 64).due(4, "harsh 0 0"));
        Sentences.test(PART, "HARSH of a reading: six notes have fifteen pairs", () -> Scores.chord(60, 61, 62, 63, 64, 65)
            .due(94, "harsh 0 0"));
        Sentences.test(PART, "HARSH of a reading: pairs with the BASE count", () -> Scores.chord(60, 60, 60, 60, 60, 60)
            .lists(0, 81, 80).due(5 * (4 * 2 + 4), "harsh 0 0"));
        Sentences.test(PART, "HARSH of a reading: pairs without the BASE count", () -> Scores.chord(60, 64, 67)
            .due(4 + 2 + 6, "harsh 0 0"));
    }

    private static void reading() {
        Sentences.test("Promise 11", "0 up, 1 down of its ratio, 2 its TARGET", () -> Scores.chord(60, 64)
            .due(5, "reading 0 0 1 0").due(4, "reading 0 0 1 1").due(38631, "reading 0 0 1 2"));
        Sentences.test("Promise 11", "BAD: no such set", () -> twoSets()
            .due(BAD, "reading -1 0 0 0", "reading 2 0 0 0", "reading " + LOW + " 0 0 0", "reading " + HIGH + " 0 0 0")
            .due(1, "reading 0 0 0 0", "reading 1 0 2 0"));
        Sentences.test("Promise 11", "BAD: no such reading", () -> twoSets()
            .due(BAD, "reading 0 -1 1 0", "reading 0 2 1 0", "reading 0 " + LOW + " 1 0", "reading 0 " + HIGH + " 1 0",
                "reading 1 1 2 0").due(3, "reading 0 0 1 0").due(40, "reading 0 1 1 0"));
        Sentences.test("Promise 11", "BAD: no such note", () -> twoSets()
            .due(BAD, "reading 0 0 -1 0", "reading 0 0 3 0", "reading 0 0 16 0", "reading 0 0 " + LOW + " 0",
                "reading 0 0 " + HIGH + " 0"));
        Sentences.test("Promise 11", "BAD: also a note that does not sound there", () -> twoSets()
            .due(BAD, "reading 0 0 2 0", "reading 1 0 0 0", "reading 1 0 1 2")
            .due(1, "reading 0 0 0 0", "reading 1 0 2 0"));
        Sentences.test("Promise 11", "BAD: another what", () -> twoSets()
            .due(BAD, "reading 0 0 1 -1", "reading 0 0 1 3", "reading 0 0 1 " + LOW, "reading 0 0 1 " + HIGH));
    }

    /** Two readings of set 0, one of set 1. */
    private static Run twoSets() {
        return Scores.score(60, 0, 1, 67, 0, 1, 60, 1, 2).lists(7, 3, 2, 40, 27);
    }

    private static void harsh() {
        Sentences.test("Promise 12", "HARSH of a reading, the last one too", () -> twoSets().due(2, "harsh 0 0")
            .due(10, "harsh 0 1")
            .due(0, "harsh 1 0"));
        Sentences.test("Promise 12", "BAD: no such set", () -> twoSets()
            .due(BAD, "harsh -1 0", "harsh 2 0", "harsh " + LOW + " 0", "harsh " + HIGH + " 0"));
        Sentences.test("Promise 12", "BAD: no such reading", () -> twoSets()
            .due(BAD, "harsh 0 -1", "harsh 0 2", "harsh 1 1", "harsh 0 " + LOW, "harsh 0 " + HIGH));
        Sentences.test("Promise 12", "BAD: a set without readings", () -> twoSets().does("empty 7").due(BAD, "harsh 0 0"));
    }
}
