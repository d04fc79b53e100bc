import java.util.ArrayList;
import java.util.List;
import java.util.Random;
import java.util.function.ToLongFunction;

/**
 * Scores with the longest numbers, and such that one of the solver's primes divides the determinant
 * or a part of it: all places, moves and energies compared with Reference.
 */
public final class LongNumbersTest {
    private static final int GREAT_RUNS = 300;
    private static int failures;
    private static int longest;

    /** The prime 1073741xxx divides the determinant: it has to be left out. */
    private static final String[] WHOLE = {
        "663: 66,1,4 58,1,3 72,2,3 60,1,3 69,2,5 bind 0 1 weights 44 54 63",
        "689: 71,0,3 59,3,4 67,0,2 72,1,4 74,3,5 61,1,4 bind 2 3 4 5 weights 51 74 69",
        "717: 55,2,4 64,0,3 66,0,2 69,1,4 70,3,4 bind 0 1 3 4 weights 79 12 73",
        "741: 69,0,2 56,1,4 57,0,3 74,1,3 60,0,1 71,0,1 bind 0 1 3 5 weights 38 14 53",
        "783: 63,1,2 64,2,4 67,0,2 59,2,3 61,1,3 bind 0 2 weights 55 49 38",
        "783: 61,0,3 65,2,5 61,1,3 72,0,1 70,0,2 bind 1 4 weights 34 54 16"};

    /** The prime divides the determinant of the first few variables alone: rows have to be swapped. */
    private static final String[] PART = {
        "789: 56,0,2 74,2,5 62,1,3 66,1,2 73,0,3 64,1,3 bind 0 1 4 weights 59 17 73",
        "651: 74,1,4 56,1,3 61,1,2 68,0,2 71,0,1 69,2,5 57,2,3 bind 0 3 4 5 weights 57 47 30",
        "663: 71,0,2 63,2,4 63,0,3 57,1,4 63,2,5 65,0,2 bind 0 1 3 4 5 weights 89 12 1",
        "671: 74,2,5 71,1,3 72,2,5 57,2,3 66,1,3 bind 0 3 4 weights 79 12 88",
        "723: 57,3,5 66,2,5 71,1,3 62,1,3 71,2,3 74,1,2 bind 0 1 4 weights 18 88 49",
        "689: 66,0,1 72,3,5 63,2,4 72,3,6 73,0,3 bind 0 1 4 weights 14 66 27",
        "717: 72,1,3 73,1,4 65,2,3 60,2,5 63,2,4 bind 3 4 weights 61 94 36",
        "723: 61,0,1 56,2,3 61,1,4 64,0,2 57,0,3 bind 0 1 2 weights 89 96 52"};

    private final Reference due = new Reference();
    private final List<Change> changes = new ArrayList<>();
    private JustMoves moves;

    private record Change(String call, ToLongFunction<JustMoves> to, long want) { }

    public static void main(String[] args) {
        for (String line : WHOLE) {
            new LongNumbersTest().runLine(line);
        }
        for (String line : PART) {
            new LongNumbersTest().runLine(line);
        }
        for (int run = 0; run < GREAT_RUNS && failures == 0; run++) {
            new LongNumbersTest().runGreat(new Random(31L * run + 7));
        }
        if (longest < 120) {
            failures++;
            System.out.println("the longest text had " + longest + " bytes alone");
        }
        System.out.println(failures == 0 ? "all long numbers agree" : failures + " long numbers do not agree");
        if (failures != 0) {
            System.exit(1);
        }
    }

    private void check(String call, long got, long want) {
        if (got != want) {
            failures++;
            for (Change change : changes) {
                System.out.println(change.call + " = " + change.want);
            }
            System.out.println(call + " answered " + got + ", due is " + want);
        }
    }

    private void change(String call, ToLongFunction<JustMoves> to, long want) {
        changes.add(new Change(call, to, want));
    }

    private void note(int key, int from, int to) {
        change("note(" + key + ", " + from + ", " + to + ")", x -> x.note(key, from, to), due.note(key, from, to));
    }

    private void bind(int note, boolean on) {
        change("bind(" + note + ", " + on + ")", x -> x.bind(note, on), due.bind(note, on));
    }

    private void weight(int what, int v) {
        change("weight(" + what + ", " + v + ")", x -> x.weight(what, v), due.weight(what, v));
    }

    private void list(int type, int up, int down) {
        change("empty(" + type + ")", x -> x.empty(type), due.empty(type));
        change("ratio(" + type + ", " + up + ", " + down + ")", x -> x.ratio(type, up, down), due.ratio(type, up, down));
    }

    private void runLine(String line) {
        String[] words = line.split(" ");
        int i = 1;
        for (; !words[i].equals("bind"); i++) {
            String[] n = words[i].split(",");
            note(Integer.parseInt(n[0]), Integer.parseInt(n[1]), Integer.parseInt(n[2]));
        }
        for (i++; !words[i].equals("weights"); i++) {
            bind(Integer.parseInt(words[i]), true);
        }
        for (int what = 2; what < 5; what++) {
            weight(what, Integer.parseInt(words[i + what - 1]));
        }
        compareAll();
    }

    /** As many notes and sets as there can be, nearly all notes BOUND, ratios far off. */
    private void runGreat(Random random) {
        int[] ends = new int[16];
        int[] begins = new int[16];
        spread(random, begins, ends);
        for (int i = 0; i < 16; i++) {
            note(random.nextInt(2) * 60 + random.nextInt(68), begins[i], ends[i]);
        }
        for (int type = 0; type < 12; type++) {
            boolean low = random.nextBoolean();
            list(type, low ? 1 : 4095, low ? 1 : 2048);
        }
        for (int i = 0; i < 16; i++) {
            bind(i, true);
        }
        for (int i = 0; i < 16; i++) {
            bind(i, false);
            if (due.variables().size() > 20 || random.nextInt(4) == 0) {
                bind(i, true);
            }
        }
        int[] some = {99, 99, 99, 98, 97, 1, 0};
        for (int what = 2; what < 5; what++) {
            weight(what, some[random.nextInt(some.length)]);
        }
        compareAll();
    }

    /** 32 ticks; six notes sound as often as they can. */
    private static void spread(Random random, int[] begins, int[] ends) {
        boolean[] open = new boolean[16];
        int begun = 0;
        int ended = 0;
        for (int tick = 0; tick < 32; tick++) {
            if (begun < 16 && begun - ended < 6) {
                begins[begun] = tick;
                open[begun] = true;
                begun++;
            } else {
                int note = random.nextInt(16);
                while (!open[note]) {
                    note = (note + 1) % 16;
                }
                open[note] = false;
                ends[note] = tick;
                ended++;
            }
        }
    }

    private void compareAll() {
        change("choose()", JustMoves::choose, due.choose());
        change("solve()", JustMoves::solve, due.solve());
        change("loose()", JustMoves::loose, due.loose());
        startAgain();
        compareText("energy()", moves.energy(), due.energy());
        boolean[] seen = new boolean[20];
        for (int set = 0; set < due.sets(); set++) {
            for (int note : due.members(set)) {
                int variable = due.variable(set, note);
                if (!seen[variable]) {
                    seen[variable] = true;
                    compareVariable(set, note, variable);
                }
            }
        }
    }

    /** Texts are long and an object is used for 512 calls at most, so that each variable has its own. */
    private void startAgain() {
        moves = new JustMoves();
        for (Change change : changes) {
            check(change.call, change.to.applyAsLong(moves), change.want);
        }
    }

    private void compareVariable(int set, int note, int variable) {
        startAgain();
        String both = "(" + set + ", " + note + ")";
        check("variable" + both, moves.variable(set, note), variable);
        check("near" + both, moves.near(set, note), due.near(set, note));
        compareText("place" + both, moves.place(set, note), due.place(set, note));
        compareText("move" + both, moves.move(set, note), due.move(set, note));
    }

    private void compareText(String call, int got, int want) {
        check(call, got, want);
        longest = Math.max(longest, want);
        StringBuilder text = new StringBuilder();
        for (int i = 0; i < want; i++) {
            text.append((char) moves.text(i));
        }
        check("text(" + want + ")", moves.text(want), JustMoves.NONE);
        if (!text.toString().equals(due.text)) {
            failures++;
            System.out.println(call + " wrote " + text + ", due is " + due.text);
        }
    }
}
