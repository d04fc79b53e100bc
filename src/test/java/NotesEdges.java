/** Part 1 of 'Terms', NOTES, and promises 8 to 10, which tell of sets and notes. */
final class NotesEdges {
    private static final int BAD = Run.BAD, LOW = Run.LOW, HIGH = Run.HIGH;

    private NotesEdges() { }

    static void all() {
        notes();
        ticks();
        sets();
        set();
        sounds();
    }

    private static void notes() {
        String part = "1 NOTES";
        Sentences.test(part, "NOTES 0 .. 15", () -> Scores.sixteen().due(1, "sounds 15 15", "sounds 0 0")
            .due(BAD, "sounds 15 16", "sounds 0 -1"));
        Sentences.test(part, "sound from a tick to before another one", () -> Scores.score(60, 5, 7, 62, 7, 9, 64, 6, 8)
            .due(1, "sounds 0 0", "sounds 1 0", "sounds 1 2", "sounds 2 2", "sounds 2 1", "sounds 3 1")
            .due(0, "sounds 2 0", "sounds 1 1", "sounds 0 2", "sounds 3 2"));
        Sentences.test(part, "EQUAL of a note is 10000 times its KEY", () -> Scores.score(0, 0, 1, 127, 2, 3, 1, 4, 5)
            .solves()
            .dueText("0", "place 0 0").dueText("1270000", "place 1 1").dueText("10000", "place 2 2")
            .due(0, "near 0 0").due(1270000, "near 1 1"));
        Sentences.test(part, "A note is COMMON to sets k and k + 1 if it sounds in both", () -> Scores
            .score(60, 0, 2, 64, 0, 1).does("choose").due(0, "pure 1 6"));
        Sentences.test(part, "COMMON: another note with the KEY is not", () -> Scores
            .score(60, 0, 1, 60, 1, 2).does("choose").due(1, "pure 1 6"));
        Sentences.test(part, "COMMON: no note over a silence", () -> Scores
            .score(60, 0, 1, 60, 2, 3).does("choose").due(1, "pure 1 6"));
    }

    private static void ticks() {
        String part = "1 NOTES";
        Sentences.test(part, "All ticks at which notes begin part the time", () -> dueTicks(
            Scores.score(60, 0, 10, 64, 3, 10), 0, 3, 3, 10));
        Sentences.test(part, "All ticks at which notes end part the time", () -> dueTicks(
            Scores.score(60, 0, 10, 64, 0, 4), 0, 4, 4, 10));
        Sentences.test(part, "All ticks part the time, like ones once", () -> dueTicks(
            Scores.score(60, 0, 10, 64, 0, 10, 67, 0, 10), 0, 10));
        Sentences.test(part, "All ticks part the time, an end and a beginning at one tick once", () -> dueTicks(
            Scores.score(60, 0, 4, 60, 4, 8), 0, 4, 4, 8));
        Sentences.test(part, "parts between two such ticks that are next to one another", () -> dueTicks(
            Scores.score(60, 0, 9999, 64, 1, 9998, 67, 2, 3), 0, 1, 1, 2, 2, 3, 3, 9998, 9998, 9999));
        Sentences.test(part, "those in which some note sounds: no silence before, between, behind", () -> dueTicks(
            Scores.score(60, 5, 6, 62, 8, 9), 5, 6, 8, 9));
        Sentences.test(part, "sets 0 and 1 may have a silence of one tick between them", () -> dueTicks(
            Scores.score(60, 0, 4, 62, 5, 8), 0, 4, 5, 8));
        Sentences.test(part, "the SETS, numbered by time, not by notes", () -> dueTicks(
            Scores.score(60, 20, 30, 62, 2, 4, 64, 10, 11), 2, 4, 10, 11, 20, 30));
        Sentences.test(part, "numbered anew by each note", () -> {
            Run run = Scores.score(60, 10, 20);
            dueTicks(run, 10, 20);
            dueTicks(run.notes(62, 0, 5), 0, 5, 10, 20);
            dueTicks(run.notes(64, 4, 12), 0, 4, 4, 5, 5, 10, 10, 12, 12, 20);
        });
        Sentences.test(part, "the first and the last tick of all", () -> dueTicks(
            Scores.score(60, 0, 1, 62, 9998, 9999), 0, 1, 9998, 9999));
    }

    /** The sets begin and end at these ticks, and there are no others. */
    private static void dueTicks(Run run, int... ticks) {
        run.due(ticks.length / 2, "sets");
        for (int i = 0; i < ticks.length; i++) {
            run.due(ticks[i], "set " + i / 2 + " " + i % 2);
        }
        run.due(BAD, "set " + ticks.length / 2 + " 0");
    }

    private static void sets() {
        Sentences.test("Promise 8", "How many sets: none", () -> new Run().due(0, "sets").notes(60, 0, 1).due(1, "sets")
            .does("clear").due(0, "sets"));
        Sentences.test("Promise 8", "How many sets: 31 at most", () -> {
            Run run = Scores.longest().due(31, "sets").due(0, "set 0 0").due(34, "set 30 0").due(36, "set 30 1")
                .due(15, "set 30 2").due(1, "set 30 3", "sounds 30 15").due(0, "sounds 30 14").due(BAD, "set 31 0");
            for (int set = 0; set < 30; set++) {
                run.due(set < 26 ? set + 1 : 2 * set - 24, "set " + set + " 1");
            }
        });
    }

    private static void set() {
        Sentences.test("Promise 9", "0 the tick at which it begins, 1 at which it ends", () -> Scores.score(60, 7, 9)
            .due(7, "set 0 0").due(9, "set 0 1"));
        Sentences.test("Promise 9", "2 its BASE", () -> Scores.score(67, 0, 2, 64, 0, 2, 60, 1, 2).due(1, "set 0 2")
            .due(2, "set 1 2"));
        Sentences.test("Promise 9", "3 how many notes: one, six", () -> Scores
            .score(60, 0, 2, 61, 1, 2, 62, 1, 2, 63, 1, 2, 64, 1, 2, 65, 1, 2).due(1, "set 0 3").due(6, "set 1 3"));
        Sentences.test("Promise 9", "4 how many readings: one, none, 243", () -> Scores.sixWith(3, 3, 3, 3, 3)
            .due(243, "set 0 4").notes(60, 4, 5).due(1, "set 1 4").does("empty 5").due(0, "set 0 4").due(1, "set 1 4"));
        Sentences.test("Promise 9", "BAD: no such set", () -> Scores.score(60, 0, 1, 62, 1, 2)
            .due(BAD, "set -1 0", "set 2 0", "set -1 4", "set 2 4", "set 31 0", "set " + LOW + " 0", "set " + HIGH + " 0")
            .due(0, "set 0 0").due(1, "set 1 0").does("clear").due(BAD, "set 0 0"));
        Sentences.test("Promise 9", "BAD: another what", () -> Scores.score(60, 3, 5)
            .due(BAD, "set 0 -1", "set 0 5", "set 0 " + LOW, "set 0 " + HIGH).due(3, "set 0 0").due(1, "set 0 4"));
    }

    private static void sounds() {
        Sentences.test("Promise 10", "1, 0", () -> Scores.score(60, 0, 4, 64, 8, 9).due(1, "sounds 0 0", "sounds 1 1")
            .due(0, "sounds 0 1", "sounds 1 0"));
        Sentences.test("Promise 10", "BAD: no such set", () -> Scores.score(60, 0, 4, 64, 8, 9)
            .due(BAD, "sounds -1 0", "sounds 2 0", "sounds 2 1", "sounds " + LOW + " 0", "sounds " + HIGH + " 0"));
        Sentences.test("Promise 10", "BAD: no such note", () -> Scores.score(60, 0, 4, 64, 8, 9)
            .due(BAD, "sounds 0 -1", "sounds 0 2", "sounds 0 15", "sounds 0 16", "sounds 0 " + LOW, "sounds 0 " + HIGH));
    }
}
