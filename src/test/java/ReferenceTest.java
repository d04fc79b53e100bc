import java.util.Random;

/** Random runs of calls, each answer compared with that of Reference. */
public final class ReferenceTest {
    private static final int RUNS = 1000;
    /** An object is used for at most 512 calls. */
    private static final int CALLS = 512;
    private static final int[][] RATIOS = {
        {1, 1}, {81, 80}, {16, 15}, {25, 24}, {10, 9}, {9, 8}, {8, 7}, {7, 6}, {6, 5}, {32, 27}, {11, 9},
        {5, 4}, {81, 64}, {9, 7}, {4, 3}, {21, 16}, {11, 8}, {7, 5}, {45, 32}, {10, 7}, {3, 2}, {40, 27},
        {8, 5}, {13, 8}, {5, 3}, {27, 16}, {16, 9}, {9, 5}, {7, 4}, {15, 8}, {13, 7}, {9801, 9800},
        {8192, 6561}, {9375, 8192}, {2197, 2048}, {7203, 4000}, {9604, 6561}, {9216, 9295}};

    private final Random random;
    private final int run;
    private final JustMoves moves = new JustMoves();
    private final Reference due = new Reference();
    private final StringBuilder log = new StringBuilder();
    private int calls;
    private boolean wrong;

    private ReferenceTest(int run) {
        this.run = run;
        random = new Random(7919L * run + 13);
    }

    public static void main(String[] args) {
        int failures = 0;
        for (int run = 0; run < RUNS && failures < 5; run++) {
            if (!new ReferenceTest(run).passes()) {
                failures++;
            }
        }
        System.out.println(failures == 0 ? "all random runs agree" : failures + " random runs do not agree");
        if (failures != 0) {
            System.exit(1);
        }
    }

    private boolean passes() {
        while (calls < CALLS && !wrong) {
            switch (random.nextInt(4)) {
                case 0 -> changeNotes();
                case 1 -> changeRatios();
                case 2 -> changeWeights();
                default -> { }
            }
            look(random.nextInt(25));
            find();
            look(random.nextInt(60));
        }
        return !wrong;
    }

    private void check(String call, long got, long want) {
        calls++;
        log.append(call).append(" = ").append(want).append('\n');
        if (got != want && !wrong) {
            wrong = true;
            System.out.println("run " + run + ":\n" + log + "but answered " + got);
        }
    }

    private boolean goesOn() {
        return calls < CALLS && !wrong;
    }

    private int pick(int... from) {
        return from[random.nextInt(from.length)];
    }

    private int about(int low, int high) {
        if (random.nextInt(40) == 0) {
            return pick(Integer.MIN_VALUE, Integer.MAX_VALUE, low - 1, high + 1);
        }
        return low + random.nextInt(high - low + 1);
    }

    private void changeNotes() {
        if (goesOn() && random.nextInt(4) != 0) {
            check("clear()", moves.clear(), due.clear());
        }
        int count = random.nextInt(12) == 0 ? 18 : 1 + random.nextInt(7);
        int span = pick(3, 6, 12, 40);
        int low = pick(0, 36, 60, 100);
        for (int i = 0; i < count && goesOn(); i++) {
            int key = about(low, low + pick(3, 12, 27));
            int from = about(0, span);
            int to = from + about(1, pick(2, 5, span));
            if (random.nextInt(30) == 0) {
                from = pick(0, 9990, 9998, 9999);
                to = pick(1, 9998, 9999, 10000);
            }
            check("note(" + key + ", " + from + ", " + to + ")", moves.note(key, from, to), due.note(key, from, to));
        }
        for (int i = random.nextInt(5); i > 0 && goesOn(); i--) {
            bind();
        }
    }

    private void bind() {
        int note = about(0, Math.max(due.notes.size() - 1, 0));
        boolean on = random.nextInt(3) != 0;
        check("bind(" + note + ", " + on + ")", moves.bind(note, on), due.bind(note, on));
    }

    private void changeRatios() {
        for (int i = random.nextInt(6); i > 0 && goesOn(); i--) {
            int type = about(0, 11);
            if (random.nextInt(8) == 0) {
                check("empty(" + type + ")", moves.empty(type), due.empty(type));
                continue;
            }
            int[] ratio = RATIOS[random.nextInt(RATIOS.length)];
            int up = ratio[0];
            int down = ratio[1];
            if (random.nextInt(6) == 0) {
                up = about(1, pick(20, 100, 9999));
                down = about(1, pick(20, 100, 9999));
            }
            check("ratio(" + type + ", " + up + ", " + down + ")",
                moves.ratio(type, up, down), due.ratio(type, up, down));
        }
    }

    private void changeWeights() {
        for (int i = random.nextInt(4); i > 0 && goesOn(); i--) {
            int what = about(0, 4);
            int v = random.nextBoolean() ? pick(0, 1, 99) : about(0, what == 0 ? 1000000 : 99);
            if (what == 4 && random.nextInt(3) == 0) {
                v = 0;
            }
            check("weight(" + what + ", " + v + ")", moves.weight(what, v), due.weight(what, v));
        }
    }

    private void find() {
        if (goesOn()) {
            long cost = due.choose();
            check("choose()", moves.choose(), cost);
            if (cost >= 0 && due.costOf(due.choice) != cost) {
                wrong = true;
                System.out.println("run " + run + ": the reference's own cost is not that of its choice\n" + log);
            }
        }
        if (goesOn() && random.nextInt(8) != 0) {
            check("solve()", moves.solve(), due.solve());
        }
    }

    private void look(int times) {
        for (int i = 0; i < times && goesOn(); i++) {
            lookOnce();
        }
    }

    private void lookOnce() {
        int set = about(0, Math.max(due.sets() - 1, 0));
        int note = about(0, Math.max(due.notes.size() - 1, 0));
        if (random.nextInt(3) != 0 && set >= 0 && set < due.sets()) {
            note = due.members(set).get(random.nextInt(due.members(set).size()));
        }
        String both = "(" + set + ", " + note + ")";
        switch (random.nextInt(17)) {
            case 0 -> check("sets()", moves.sets(), due.sets());
            case 1 -> lookAtSet(set);
            case 2 -> check("sounds" + both, moves.sounds(set, note), due.sounds(set, note));
            case 3, 4 -> lookAtReading(set, note);
            case 5 -> check("chosen(" + set + ")", moves.chosen(set), due.chosen(set));
            case 6 -> check("variable" + both, moves.variable(set, note), due.variable(set, note));
            case 7 -> check("loose()", moves.loose(), due.loose());
            case 8 -> lookAtText("place" + both, moves.place(set, note), due.place(set, note));
            case 9 -> lookAtText("move" + both, moves.move(set, note), due.move(set, note));
            case 10 -> lookAtText("energy()", moves.energy(), due.energy());
            case 11, 12 -> check("near" + both, moves.near(set, note), due.near(set, note));
            case 13 -> lookAtByte(about(0, due.text.length()));
            case 14 -> {
                int what = about(0, 7);
                check("pure(" + set + ", " + what + ")", moves.pure(set, what), due.pure(set, what));
            }
            case 15 -> {
                int i = about(0, 3);
                int what = about(0, 2);
                check("pump(" + i + ", " + what + ")", moves.pump(i, what), due.pump(i, what));
            }
            default -> {
                if (random.nextInt(20) == 0) {
                    bind();
                }
            }
        }
    }

    private void lookAtSet(int set) {
        int what = about(0, 4);
        check("set(" + set + ", " + what + ")", moves.set(set, what), due.set(set, what));
    }

    private void lookAtReading(int set, int note) {
        int reading = about(0, Math.max(due.set(set, 4) - 1, 0));
        int what = about(0, 2);
        if (random.nextBoolean()) {
            check("harsh(" + set + ", " + reading + ")", moves.harsh(set, reading), due.harsh(set, reading));
        } else {
            check("reading(" + set + ", " + reading + ", " + note + ", " + what + ")",
                moves.reading(set, reading, note, what), due.reading(set, reading, note, what));
        }
    }

    /** Now and then all bytes: they would use up the calls of a run. */
    private void lookAtText(String call, int got, int want) {
        check(call, got, want);
        int first = random.nextInt(4) == 0 ? -1 : due.text.length();
        for (int i = first; i <= due.text.length() && goesOn(); i++) {
            lookAtByte(i);
        }
    }

    private void lookAtByte(int i) {
        check("text(" + i + ")", moves.text(i), due.text(i));
    }
}
