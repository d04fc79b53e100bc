/** Scores at the document's limits, for several tests. */
final class Scores {
    private Scores() { }

    /** Notes that all sound from tick 0 to before tick 4. */
    static Run chord(int... keys) {
        Run run = new Run();
        for (int key : keys) {
            run.notes(key, 0, 4);
        }
        return run;
    }

    /** Each note is three numbers: its key, from, to. */
    static Run score(int... numbers) {
        return new Run().notes(numbers);
    }

    /** 16 notes with 32 ticks: 31 sets. */
    static Run longest() {
        Run run = new Run();
        for (int i = 0; i < 16; i++) {
            run.notes(60 + i, i < 6 ? i : 2 * i - 5, 2 * i + 6);
        }
        return run;
    }

    /** 16 notes, one after another. */
    static Run sixteen() {
        Run run = new Run();
        for (int i = 0; i < 16; i++) {
            run.notes(50 + i, i, i + 1);
        }
        return run;
    }

    /** Six notes of one set; the counts of their lists multiply. */
    static Run sixWith(int... counts) {
        return withCounts(chord(60, 61, 62, 63, 64, 65), counts);
    }

    /** One note, and behind it such a set. */
    static Run sixLastWith(int... counts) {
        return withCounts(score(60, 0, 4, 60, 4, 8, 61, 4, 8, 62, 4, 8, 63, 4, 8, 64, 4, 8, 65, 4, 8), counts);
    }

    /** The CLASSES 1 to 5 have as many ratios as told. */
    private static Run withCounts(Run run, int... counts) {
        for (int i = 0; i < counts.length; i++) {
            for (int ratio = 1; ratio < counts[i]; ratio++) {
                run.does("ratio " + (i + 1) + (ratio == 1 ? " 7 5" : " 7 4"));
            }
        }
        return run;
    }

    /** Five sets of four notes that are not BOUND. */
    static Run twentyVariables() {
        return score(48, 0, 5, 52, 0, 5, 55, 0, 5, 60, 0, 1, 61, 1, 2, 62, 2, 3, 63, 3, 4, 64, 4, 5);
    }

    /** The same, but that the last note goes on alone. */
    static Run twentyOneVariables() {
        return score(48, 0, 5, 52, 0, 5, 55, 0, 5, 60, 0, 1, 61, 1, 2, 62, 2, 3, 63, 3, 4, 64, 4, 6);
    }

    /** Three sets with a silence, a BOUND note, two readings, an empty list, PLACES and a TEXT. */
    static Run withPlaces() {
        Run run = score(60, 0, 4, 64, 0, 4, 67, 0, 8, 59, 4, 8, 72, 10, 12);
        run.does("bind 2 on", "ratio 7 40 27", "empty 6", "weight 1 3");
        return run.solves().does("move 0 1");
    }
}
