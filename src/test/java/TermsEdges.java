/** The head of 'Terms' (refusals), how long an object is used, and 'What changes ..' at its end. */
final class TermsEdges {
    private static final int BAD = Run.BAD, STATE = Run.STATE, FULL = Run.FULL, NONE = Run.NONE;
    private static final String CHANGES = "What changes notes, BOUND ones, ratios, weights (also to the same)";

    private TermsEdges() { }

    static void all() {
        Sentences.test("What it is", "at most 512 calls after it has been made", TermsEdges::call512);
        String terms = "Terms, Of several refusals the first one here";
        Sentences.test(terms, "BAD before FULL", TermsEdges::badBeforeFull);
        Sentences.test(terms, "BAD before STATE", TermsEdges::badBeforeState);
        Sentences.test(terms, "STATE before FULL", TermsEdges::stateBeforeFull);
        refusalsChangeNothing();
        notesChange();
        ratiosChange();
        weightsChange();
        Sentences.test(CHANGES, "nothing else does: looks and refused calls", TermsEdges::looksKeepAll);
    }

    private static void call512() {
        Run run = Scores.chord(60, 67).due(1, "weight 1 0");
        for (int i = 1; i <= Run.CALLS - 6; i++) {
            run.due((i - 1) % 100, "weight 1 " + i % 100);
        }
        run.due(200000, "choose").due(2, "solve").due(670087, "near 0 1");
    }

    private static void badBeforeFull() {
        Scores.sixteen().due(FULL, "note 60 0 1").due(BAD, "note 128 0 1", "note 60 1 1", "note 60 0 10000");
        Scores.chord(60, 60, 60, 60, 60, 60).due(FULL, "note 60 0 1").due(BAD, "note -1 0 1", "note 60 -1 1");
        Scores.chord(60).lists(7, 3, 2, 40, 27, 32, 21).due(FULL, "ratio 7 49 33")
            .due(BAD, "ratio 7 32 21", "ratio 7 17 11", "ratio 7 6 4", "ratio 7 2 1");
    }

    private static void badBeforeState() {
        Run run = Scores.chord(60, 67);
        for (String call : new String[] {"place", "move", "near"}) {
            run.due(STATE, call + " 0 0").due(BAD, call + " 1 0", call + " 0 2", call + " -1 0", call + " 0 -1");
        }
        run.due(STATE, "pure 0 0").due(BAD, "pure 1 0", "pure -1 0", "pure 0 8", "pure 0 -1");
        run.due(STATE, "pump 0 0").due(BAD, "pump -1 0", "pump 0 3", "pump 0 -1");
    }

    private static void stateBeforeFull() {
        Scores.sixWith(3, 3, 2, 2, 2).due(FULL, "choose").notes(60, 4, 5, 67, 4, 5).does("empty 7").due(STATE, "choose");
        // The set without readings stands before the one with too many.
        Scores.sixLastWith(3, 3, 2, 2, 2).due(FULL, "choose").notes(67, 0, 4).does("empty 7").due(STATE, "choose");
        Scores.twentyOneVariables().due(STATE, "solve").does("choose").due(FULL, "solve");
    }

    private static void refusalsChangeNothing() {
        String terms = "Terms, they change nothing";
        Sentences.test(terms, "BAD, with PLACES", () -> {
            Sentences.changesNothing(Scores::withPlaces, BAD, changesRefused());
            Sentences.changesNothing(Scores::withPlaces, BAD, looksRefused());
        });
        Sentences.test(terms, "BAD, without a CHOICE", () -> {
            Sentences.changesNothing(() -> Scores.withPlaces().does("bind 1 on"), BAD, changesRefused());
            Sentences.changesNothing(() -> Scores.withPlaces().does("bind 1 on"), BAD, looksRefused());
        });
        Sentences.test(terms, "STATE, without a CHOICE", () -> Sentences.changesNothing(
            () -> Scores.withPlaces().does("bind 1 on"), STATE,
            "solve", "loose", "place 0 0", "move 0 0", "energy", "near 0 0", "pure 0 0", "pump 0 0"));
        Sentences.test(terms, "STATE, with a CHOICE and without PLACES", () -> Sentences.changesNothing(
            () -> Scores.withPlaces().does("choose"), STATE, "loose", "place 0 0", "move 0 0", "energy", "near 0 0"));
        Sentences.test(terms, "STATE of choose, a set has no reading", () -> Sentences.changesNothing(
            () -> Scores.withPlaces().does("empty 4"), STATE, "choose"));
        Sentences.test(terms, "STATE of choose, there is no set", () -> Sentences.changesNothing(
            () -> Scores.withPlaces().does("clear"), STATE, "choose"));
        Sentences.test(terms, "FULL of note, there are 16", () -> Sentences.changesNothing(
            () -> Scores.sixteen().does("bind 15 on", "choose", "solve", "place 15 15"), FULL, "note 60 100 101"));
        Sentences.test(terms, "FULL of note, more than six", () -> Sentences.changesNothing(
            () -> Scores.chord(60, 62, 64, 67, 69, 72).solves().does("place 0 2"), FULL, "note 60 0 4", "note 60 3 9"));
        Sentences.test(terms, "FULL of ratio", () -> Sentences.changesNothing(
            () -> Scores.chord(60, 67).lists(7, 3, 2, 40, 27, 32, 21).solves().does("place 0 1"), FULL, "ratio 7 49 33"));
        Sentences.test(terms, "FULL of choose", () -> Sentences.changesNothing(
            () -> Scores.sixWith(3, 3, 2, 2, 2), FULL, "choose"));
        Sentences.test(terms, "FULL of solve", () -> Sentences.changesNothing(
            () -> Scores.twentyOneVariables().does("choose"), FULL, "solve"));
    }

    private static String[] changesRefused() {
        return new String[] {"note -1 0 1", "note 128 0 1", "note 60 -1 1", "note 60 5 5", "note 60 0 10000",
            "bind -1 on", "bind 5 on", "ratio -1 3 2", "ratio 12 3 2", "ratio 7 3 2", "ratio 7 40 27", "ratio 7 6 4",
            "ratio 7 17 11", "ratio 7 2 1", "ratio 7 10000 9801", "empty -1", "empty 12",
            "weight -1 0", "weight 5 0", "weight 0 1000001", "weight 4 100", "weight 4 -1"};
    }

    private static String[] looksRefused() {
        return new String[] {"set -1 0", "set 3 0", "set 0 5", "sounds 3 0", "sounds 0 5", "reading 0 2 0 0",
            "reading 0 0 3 0", "reading 0 0 0 3", "harsh 0 2", "harsh 3 0", "chosen 3", "variable 0 3", "place 0 3",
            "move 0 3", "near 0 3", "place 3 0", "move 3 0", "near 3 0", "pure 3 0", "pure 0 8", "pump -1 0", "pump 0 3"};
    }

    /** After the change there is neither a CHOICE nor are there PLACES. */
    private static void takesAway(String change) {
        Scores.withPlaces().does(change).due(NONE, "chosen 0")
            .due(STATE, "solve", "loose", "energy", "place 0 0", "move 0 0", "near 0 0", "pure 0 0", "pump 0 0");
    }

    private static void notesChange() {
        Sentences.test(CHANGES, "notes: note", () -> takesAway("note 40 0 1"));
        Sentences.test(CHANGES, "notes: note, behind all sets", () -> takesAway("note 40 9998 9999"));
        Sentences.test(CHANGES, "notes: clear", () -> Scores.withPlaces().does("clear")
            .due(STATE, "solve", "loose", "energy", "pump 0 0")
            .notes(60, 0, 4, 64, 0, 4, 67, 0, 8).due(NONE, "chosen 0").due(STATE, "near 0 0", "pure 0 0", "solve"));
        Sentences.test(CHANGES, "BOUND ones: a free one BOUND", () -> takesAway("bind 0 on"));
        Sentences.test(CHANGES, "BOUND ones: a BOUND one free", () -> takesAway("bind 2 off"));
        Sentences.test(CHANGES, "BOUND ones: also to the same, BOUND", () -> takesAway("bind 2 on"));
        Sentences.test(CHANGES, "BOUND ones: also to the same, free", () -> takesAway("bind 0 off"));
    }

    private static void ratiosChange() {
        Sentences.test(CHANGES, "ratios: one more that a set wants", () -> takesAway("ratio 7 32 21"));
        Sentences.test(CHANGES, "ratios: one more that no set wants", () -> takesAway("ratio 1 25 24"));
        Sentences.test(CHANGES, "ratios: a list that no set wants is empty", () -> takesAway("empty 1"));
        Sentences.test(CHANGES, "ratios: also to the same, an empty list", () -> takesAway("empty 6"));
    }

    private static void weightsChange() {
        int[] weights = {100000, 3, 4, 2, 1};
        for (int i = 0; i < weights.length; i++) {
            String same = "weight " + i + " " + weights[i];
            String other = "weight " + i + " 5";
            Sentences.test(CHANGES, "weights: also to the same: " + same, () -> takesAway(same));
            Sentences.test(CHANGES, "weights: to another one: " + other, () -> takesAway(other));
        }
    }

    private static void looksKeepAll() {
        Run run = Scores.withPlaces().due(3, "sets").does("set 0 4", "sounds 0 0", "reading 0 1 2 0", "harsh 0 1");
        run.does("chosen 0", "variable 0 0", "loose", "near 0 0", "place 0 0", "move 0 0", "energy", "text 0");
        run.does("pure 0 6").due(NONE, "pump 0 0").due(BAD, changesRefused()).due(BAD, looksRefused());
        run.due(0, "chosen 0", "loose", "pure 0 6").does("place 0 0", "move 0 0", "energy").due(5, "solve");
    }
}
