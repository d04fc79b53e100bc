/** Promises 1 to 24, each by hand: ordinary inputs, the edges that the document names, and wrong inputs. */
public final class PromisesTest {
    private static final int BAD = JustMoves.BAD, STATE = JustMoves.STATE, FULL = JustMoves.FULL, NONE = JustMoves.NONE;
    private static final int LOW = Integer.MIN_VALUE, HIGH = Integer.MAX_VALUE;
    private static int wrong = 0;

    public static void main(String[] args) {
        newObject();
        note();
        clear();
        bind();
        ratio();
        empty();
        weight();
        sets();
        set();
        sounds();
        reading();
        harsh();
        choose();
        chooseByStrain();
        chosen();
        solve();
        variable();
        loose();
        place();
        move();
        energy();
        near();
        text();
        pure();
        pump();
        invalidation();
        System.out.println(wrong == 0 ? "all promises hold" : wrong + " answers are not as due");
        if (wrong != 0) {
            System.exit(1);
        }
    }

    private static void due(int promise, String what, long got, long want) {
        if (got != want) {
            wrong++;
            System.out.println("promise " + promise + ": " + what + " answered " + got + ", due is " + want);
        }
    }

    private static void dueText(int promise, String what, JustMoves x, int length, String want) {
        StringBuilder got = new StringBuilder();
        for (int i = 0; x.text(i) != NONE; i++) {
            got.append((char) x.text(i));
        }
        due(promise, what + " (how many bytes)", length, want.length());
        if (!got.toString().equals(want)) {
            wrong++;
            System.out.println("promise " + promise + ": " + what + " wrote " + got + ", due is " + want);
        }
    }

    private static JustMoves chord(int... keys) {
        JustMoves x = new JustMoves();
        for (int key : keys) {
            x.note(key, 0, 4);
        }
        return x;
    }

    private static void list(JustMoves x, int type, int... terms) {
        x.empty(type);
        for (int i = 0; i < terms.length; i += 2) {
            due(5, "ratio(" + type + ", " + terms[i] + ", " + terms[i + 1] + ")", x.ratio(type, terms[i], terms[i + 1]), i / 2);
        }
    }

    private static void newObject() {
        JustMoves x = new JustMoves();
        due(1, "sets() of a new object", x.sets(), 0);
        due(1, "set(0, 0) of a new object", x.set(0, 0), BAD);
        due(1, "bind(0, true) of a new object", x.bind(0, true), BAD);
        due(1, "choose() of a new object", x.choose(), STATE);
        due(1, "solve() of a new object", x.solve(), STATE);
        due(1, "text(0) of a new object", x.text(0), NONE);
        int[] weights = {100000, 1, 4, 2, 1};
        for (int i = 0; i < 5; i++) {
            due(1, "weight(" + i + ", 0) at first", x.weight(i, 0), weights[i]);
        }
        int[] ups = {1, 16, 9, 6, 5, 4, 45, 3, 8, 5, 9, 15};
        int[] downs = {1, 15, 8, 5, 4, 3, 32, 2, 5, 3, 5, 8};
        for (int type = 0; type < 12; type++) {
            JustMoves y = chord(48, 48 + type);
            due(1, "up of the first ratio of " + type, y.reading(0, 0, 1, 0), ups[type]);
            due(1, "down of the first ratio of " + type, y.reading(0, 0, 1, 1), downs[type]);
            due(1, "how many ratios " + type + " has at first", y.empty(type), 1);
        }
    }

    private static void note() {
        JustMoves x = new JustMoves();
        int[][] bad = {{-1, 0, 1}, {128, 0, 1}, {LOW, 0, 1}, {HIGH, 0, 1}, {60, -1, 1}, {60, LOW, 1}, {60, 9999, 10000},
            {60, 5, 5}, {60, 5, 4}, {60, 0, 10000}, {60, 0, HIGH}, {60, 0, LOW}, {60, HIGH, LOW}};
        for (int[] b : bad) {
            due(2, "a note that is wrong", x.note(b[0], b[1], b[2]), BAD);
        }
        due(2, "sets() after wrong notes", x.sets(), 0);
        due(2, "note(0, 0, 9999)", x.note(0, 0, 9999), 0);
        due(2, "note(127, 9998, 9999)", x.note(127, 9998, 9999), 1);
        for (int i = 2; i < 6; i++) {
            due(2, "note " + i, x.note(60, 10 * i, 10 * i + 100), i);
        }
        due(2, "a sixth one at tick 99", x.note(60, 90, 100), 6);
        due(2, "a seventh one at tick 99", x.note(60, 99, 101), FULL);
        due(2, "one that goes over the six", x.note(60, 0, 9999), FULL);
        due(2, "a wrong one where it is full", x.note(60, 99, 99), BAD);
        due(2, "one that begins where others end", x.note(60, 100, 200), 7);
        due(2, "one that ends where the sixth begins", x.note(60, 80, 90), 8);
        due(2, "sets() now", x.sets(), 14);
        JustMoves y = new JustMoves();
        for (int i = 0; i < 16; i++) {
            due(2, "note " + i, y.note(i, i, i + 1), i);
        }
        due(2, "a 17th note", y.note(60, 100, 101), FULL);
        due(2, "a 17th note that is wrong", y.note(60, 100, 100), BAD);
        due(2, "a note is not BOUND at first", y.bind(15, false), 0);
        JustMoves late = new JustMoves();
        late.note(60, 5, 6);
        for (int i = 1; i < 6; i++) {
            late.note(60, 3, 8);
        }
        due(2, "one that begins before six sound", late.note(60, 0, 9), FULL);
        due(2, "one that ends as the sixth begins", late.note(60, 0, 5), 6);
        JustMoves z = chord(60, 60, 60, 60, 60, 60);
        z.choose();
        due(2, "a seventh one", z.note(60, 3, 5), FULL);
        due(2, "chosen(0) after a refused note", z.chosen(0), 0);
        due(2, "one behind them", z.note(60, 4, 5), 6);
        due(2, "chosen(0) after a note", z.chosen(0), NONE);
    }

    private static void clear() {
        JustMoves x = chord(60, 67);
        x.bind(0, true);
        x.choose();
        x.solve();
        x.place(0, 0);
        due(3, "clear()", x.clear(), 2);
        due(3, "sets() after it", x.sets(), 0);
        due(3, "clear() once more", x.clear(), 0);
        due(3, "text(0) after it", x.text(0), '5');
        due(3, "choose() after it", x.choose(), STATE);
        due(3, "chosen(0) after it", x.chosen(0), BAD);
        due(3, "a note after it", x.note(50, 7, 9), 0);
        due(3, "whether the new note is BOUND", x.bind(0, false), 0);
        due(3, "sets() with it", x.sets(), 1);
        due(3, "weights stay", x.weight(0, 1), 100000);
    }

    private static void bind() {
        JustMoves x = chord(60, 67);
        due(4, "bind(0, true)", x.bind(0, true), 0);
        due(4, "bind(0, true) again", x.bind(0, true), 1);
        due(4, "bind(0, false)", x.bind(0, false), 1);
        due(4, "bind(0, false) again", x.bind(0, false), 0);
        due(4, "bind(1, false): the other note", x.bind(1, false), 0);
        due(4, "bind(2, true)", x.bind(2, true), BAD);
        due(4, "bind(-1, true)", x.bind(-1, true), BAD);
        due(4, "bind(16, true)", x.bind(16, true), BAD);
        due(4, "bind(LOW, true)", x.bind(LOW, true), BAD);
        due(4, "bind(HIGH, true)", x.bind(HIGH, true), BAD);
    }

    private static void ratio() {
        JustMoves x = new JustMoves();
        int[][] bad = {{-1, 3, 2}, {12, 3, 2}, {LOW, 3, 2}, {HIGH, 3, 2}, {0, 0, 1}, {0, 1, 0}, {0, -3, -2}, {0, 10000, 9801},
            {0, HIGH, HIGH}, {0, LOW, LOW}, {0, 2, 1}, {0, 4, 2}, {0, 3, 1}, {0, 2, 3}, {0, 6, 4}, {0, 17, 16}, {0, 18, 17},
            {0, 289, 288}, {0, 9999, 9998}, {0, 1, 1}, {7, 3, 2}, {0, 35, 25}, {0, 13 * 13, 13 * 11}};
        for (int[] b : bad) {
            due(5, "ratio(" + b[0] + ", " + b[1] + ", " + b[2] + ")", x.ratio(b[0], b[1], b[2]), BAD);
        }
        due(5, "ratio(0, 9801, 9800)", x.ratio(0, 9801, 9800), 1);
        due(5, "it again", x.ratio(0, 9801, 9800), BAD);
        due(5, "the same of another class", x.ratio(1, 9801, 9800), 1);
        due(5, "ratio(0, 8192, 6561)", x.ratio(0, 8192, 6561), 2);
        due(5, "a fourth one", x.ratio(0, 5, 4), FULL);
        due(5, "one that a full list has", x.ratio(0, 8192, 6561), BAD);
        due(5, "a wrong one for a full list", x.ratio(0, 17, 16), BAD);
        due(5, "just below 2", x.ratio(11, 4095, 2048), 1);
        due(5, "just below 2 by a unit", x.ratio(11, 13, 7), 2);
        JustMoves y = chord(60, 67);
        y.choose();
        due(5, "a wrong one", y.ratio(7, 3, 2), BAD);
        due(5, "chosen(0) after it", y.chosen(0), 0);
        due(5, "ratio(7, 40, 27)", y.ratio(7, 40, 27), 1);
        due(5, "chosen(0) after it", y.chosen(0), NONE);
        due(5, "set(0, 4) after it", y.set(0, 4), 2);
        due(5, "its TARGET", y.reading(0, 1, 1, 2), 3 * 120000 + 278631 - 3 * 190196);
    }

    private static void empty() {
        JustMoves x = chord(60, 67);
        due(6, "empty(-1)", x.empty(-1), BAD);
        due(6, "empty(12)", x.empty(12), BAD);
        due(6, "empty(LOW)", x.empty(LOW), BAD);
        due(6, "empty(HIGH)", x.empty(HIGH), BAD);
        due(6, "a list is not full", x.ratio(7, 40, 27), 1);
        due(6, "empty(7)", x.empty(7), 2);
        due(6, "empty(7) again", x.empty(7), 0);
        due(6, "readings then", x.set(0, 4), 0);
        due(6, "choose() then", x.choose(), STATE);
        due(6, "ratio(7, 3, 2) then", x.ratio(7, 3, 2), 0);
        due(6, "readings then", x.set(0, 4), 1);
        due(6, "empty(6), which no set wants", x.empty(6), 1);
        due(6, "choose() then", x.choose(), 200000);
    }

    private static void weight() {
        JustMoves x = new JustMoves();
        for (int what = 0; what < 5; what++) {
            int top = what == 0 ? 1000000 : 99;
            int first = new int[] {100000, 1, 4, 2, 1}[what];
            due(7, "weight below 0", x.weight(what, -1), BAD);
            due(7, "weight too great", x.weight(what, top + 1), BAD);
            due(7, "weight LOW", x.weight(what, LOW), BAD);
            due(7, "weight HIGH", x.weight(what, HIGH), BAD);
            due(7, "the greatest weight", x.weight(what, top), first);
            due(7, "the least weight", x.weight(what, 0), top);
            due(7, "the weight again", x.weight(what, first), 0);
        }
        due(7, "weight(-1, 0)", x.weight(-1, 0), BAD);
        due(7, "weight(5, 0)", x.weight(5, 0), BAD);
        due(7, "weight(LOW, 0)", x.weight(LOW, 0), BAD);
        due(7, "weight(HIGH, 0)", x.weight(HIGH, 0), BAD);
    }

    private static void sets() {
        JustMoves x = new JustMoves();
        x.note(60, 10, 20);
        due(8, "sets() with one note", x.sets(), 1);
        x.note(62, 30, 40);
        due(8, "sets() with a silence", x.sets(), 2);
        x.note(64, 20, 30);
        due(8, "sets() without it", x.sets(), 3);
        x.note(65, 10, 40);
        due(8, "sets() with a note over all", x.sets(), 3);
        x.note(65, 10, 15);
        due(8, "sets() with a set parted", x.sets(), 4);
        JustMoves y = new JustMoves();
        for (int i = 0; i < 16; i++) {
            y.note(60 + i, i < 6 ? i : 2 * i - 5, 2 * i + 6);
        }
        due(8, "sets() with 32 ticks", y.sets(), 31);
        due(8, "the last one ends", y.set(30, 1), 36);
        due(8, "the 32nd", y.set(31, 1), BAD);
        JustMoves z = new JustMoves();
        for (int i = 0; i < 16; i++) {
            z.note(60, 2 * i, 2 * i + 1);
        }
        due(8, "sets() with silences between all", z.sets(), 16);
        due(8, "the last one begins", z.set(15, 0), 30);
    }

    private static void set() {
        JustMoves x = new JustMoves();
        x.note(64, 5, 20);
        x.note(60, 10, 20);
        x.note(60, 12, 20);
        x.note(76, 50, 60);
        int[][] want = {{5, 10, 0, 1, 1}, {10, 12, 1, 2, 1}, {12, 20, 1, 3, 1}, {50, 60, 3, 1, 1}};
        for (int set = 0; set < 4; set++) {
            for (int what = 0; what < 5; what++) {
                due(9, "set(" + set + ", " + what + ")", x.set(set, what), want[set][what]);
            }
            due(9, "set(" + set + ", -1)", x.set(set, -1), BAD);
            due(9, "set(" + set + ", 5)", x.set(set, 5), BAD);
            due(9, "set(" + set + ", HIGH)", x.set(set, HIGH), BAD);
        }
        due(9, "set(-1, 0)", x.set(-1, 0), BAD);
        due(9, "set(4, 0)", x.set(4, 0), BAD);
        due(9, "set(LOW, 0)", x.set(LOW, 0), BAD);
        due(9, "set(HIGH, 0)", x.set(HIGH, 0), BAD);
        JustMoves y = chord(60, 61, 62, 63, 64, 65);
        for (int type = 1; type < 6; type++) {
            y.ratio(type, 7, 5);
            y.ratio(type, 7, 4);
        }
        due(9, "how many readings at most", y.set(0, 4), 243);
        y.empty(3);
        due(9, "how many with an empty list", y.set(0, 4), 0);
        JustMoves z = chord(60, 60, 72);
        z.ratio(0, 81, 80);
        due(9, "readings of like keys", z.set(0, 4), 4);
        due(9, "BASE of like keys", z.set(0, 2), 0);
        z.empty(0);
        due(9, "readings of like keys without a list", z.set(0, 4), 0);
        JustMoves one = chord(60);
        one.empty(0);
        due(9, "readings of a BASE alone, without a list", one.set(0, 4), 1);
    }

    private static void sounds() {
        JustMoves x = new JustMoves();
        x.note(60, 0, 10);
        x.note(64, 10, 20);
        x.note(67, 5, 15);
        int[][] want = {{1, 0, 0}, {1, 0, 1}, {0, 1, 1}, {0, 1, 0}};
        for (int set = 0; set < 4; set++) {
            for (int note = 0; note < 3; note++) {
                due(10, "sounds(" + set + ", " + note + ")", x.sounds(set, note), want[set][note]);
            }
        }
        int[][] bad = {{-1, 0}, {4, 0}, {0, -1}, {0, 3}, {0, 16}, {31, 0}, {LOW, LOW}, {HIGH, HIGH}, {0, HIGH}, {HIGH, 0}};
        for (int[] b : bad) {
            due(10, "sounds(" + b[0] + ", " + b[1] + ")", x.sounds(b[0], b[1]), BAD);
        }
    }

    private static void reading() {
        JustMoves x = chord(67, 60, 64, 84);
        x.ratio(4, 81, 64);
        x.ratio(7, 40, 27);
        x.ratio(7, 32, 21);
        x.ratio(0, 81, 80);
        due(11, "how many readings", x.set(0, 4), 12);
        for (int r = 0; r < 12; r++) {
            due(11, "the first note, slowest", x.reading(0, r, 0, 0), new int[] {3, 40, 32}[r / 4]);
            due(11, "its down", x.reading(0, r, 0, 1), new int[] {2, 27, 21}[r / 4]);
            due(11, "the BASE", x.reading(0, r, 1, 0), 1);
            due(11, "its down", x.reading(0, r, 1, 1), 1);
            due(11, "its TARGET", x.reading(0, r, 1, 2), 0);
            due(11, "the third note", x.reading(0, r, 2, 0), new int[] {5, 81}[r / 2 % 2]);
            due(11, "the last note, fastest", x.reading(0, r, 3, 0), new int[] {1, 81}[r % 2]);
            due(11, "its TARGET, with octaves", x.reading(0, r, 3, 2), new int[] {240000, 242153}[r % 2]);
        }
        due(11, "TARGET of a fifth", x.reading(0, 0, 0, 2), 70196);
        int[][] bad = {{-1, 0, 0, 0}, {1, 0, 0, 0}, {0, -1, 0, 0}, {0, 12, 0, 0}, {0, 0, -1, 0}, {0, 0, 4, 0}, {0, 0, 0, -1},
            {0, 0, 0, 3}, {LOW, LOW, LOW, LOW}, {HIGH, HIGH, HIGH, HIGH}, {0, HIGH, 0, 0}, {0, 0, HIGH, 0}, {0, 0, 0, HIGH}};
        for (int[] b : bad) {
            due(11, "a wrong reading", x.reading(b[0], b[1], b[2], b[3]), BAD);
        }
        x.note(60, 4, 5);
        due(11, "a note that does not sound there", x.reading(0, 0, 4, 0), BAD);
        due(11, "where it sounds", x.reading(1, 0, 4, 1), 1);
        x.empty(7);
        due(11, "without readings", x.reading(0, 0, 1, 0), BAD);
        JustMoves y = chord(60, 71);
        y.empty(11);
        y.ratio(11, 9801, 9800);
        due(11, "TARGET of 9801/9800", y.reading(0, 0, 1, 2), 20);
        y.ratio(11, 13, 11);
        due(11, "TARGET of 13/11", y.reading(0, 1, 1, 2), 444053 - 415132);
        y.ratio(11, 8, 7);
        due(11, "TARGET of 8/7", y.reading(0, 2, 1, 2), 360000 - 336883);
    }

    private static void harsh() {
        due(12, "a note alone", chord(60).harsh(0, 0), 0);
        due(12, "an octave", chord(60, 72).harsh(0, 0), 0);
        due(12, "a fifth", chord(60, 67).harsh(0, 0), 2);
        due(12, "a triad", chord(60, 64, 67).harsh(0, 0), 12);
        due(12, "the same, wide and turned round", chord(79, 60, 88).harsh(0, 0), 12);
        due(12, "like ratios", chord(60, 67, 79).harsh(0, 0), 4);
        JustMoves x = chord(60, 64);
        x.ratio(4, 13, 11);
        x.ratio(4, 49, 36);
        due(12, "13/11", x.harsh(0, 1), 22);
        due(12, "49/36", x.harsh(0, 2), 16);
        due(12, "reading -1", x.harsh(0, -1), BAD);
        due(12, "reading 3", x.harsh(0, 3), BAD);
        due(12, "set -1", x.harsh(-1, 0), BAD);
        due(12, "set 1", x.harsh(1, 0), BAD);
        due(12, "LOW, LOW", x.harsh(LOW, LOW), BAD);
        due(12, "HIGH, HIGH", x.harsh(HIGH, HIGH), BAD);
        x.empty(4);
        due(12, "without readings", x.harsh(0, 0), BAD);
    }

    private static void choose() {
        JustMoves x = chord(60, 64, 67);
        due(13, "choose() of a triad", x.choose(), 1200000);
        x.ratio(4, 81, 64);
        x.weight(0, 3);
        due(13, "choose() with another third", x.choose(), 36);
        due(13, "the lesser one is chosen", x.chosen(0), 0);
        list(x, 4, 81, 64, 5, 4);
        due(13, "choose() with the lists turned round", x.choose(), 36);
        due(13, "the lesser one is chosen", x.chosen(0), 1);
        x.weight(0, 0);
        due(13, "choose() with A 0", x.choose(), 0);
        due(13, "the first of like ones", x.chosen(0), 0);
        x.weight(0, 1000000);
        due(13, "choose() with A 1000000", x.choose(), 12000000);

        JustMoves many = chord(60, 61, 62, 63, 64);
        for (int type = 1; type < 5; type++) {
            many.ratio(type, 7, 5);
            many.ratio(type, 7, 4);
        }
        due(13, "choose() with 81 readings", many.choose(), FULL);
        due(13, "chosen(0) then", many.chosen(0), NONE);
        many.note(60, 8, 9);
        many.note(65, 8, 9);
        many.empty(5);
        due(13, "choose() with 81 readings, and none in another set", many.choose(), STATE);
        list(many, 5, 4, 3);
        list(many, 1, 16, 15, 7, 5);
        due(13, "how many readings", many.set(0, 4), 54);
        due(13, "choose() with 54 readings", many.choose() > 0 ? 1 : 0, 1);
        JustMoves last = new JustMoves();
        last.note(60, 0, 1);
        last.note(60, 1, 2);
        last.note(60, 1, 2);
        last.empty(0);
        due(13, "choose() with no reading in the last set", last.choose(), STATE);
    }

    private static void chooseByStrain() {
        // Set 1 has the BASE 55: 60 is 4/3 there and 67 an octave, so that they are a pure fifth, as in set 0.
        JustMoves x = new JustMoves();
        x.note(60, 0, 2);
        x.note(67, 0, 2);
        x.note(55, 1, 2);
        due(13, "choose() without strain", x.choose(), 100000 * (2 + 4));
        list(x, 5, 27, 20);
        // 27/20 is 2153 above 4/3. m is 2: 30 * (2 * (a a + b b) - (a + b) squared) is 30 * (a - b) squared.
        long harsh = 100000L * (2 + 10 + 10);
        due(13, "choose() with strain", x.choose(), harsh + 30L * 2153 * 2153);
        x.weight(1, 7);
        due(13, "choose() with B 7", x.choose(), harsh + 7 * 30L * 2153 * 2153);
        x.weight(1, 0);
        due(13, "choose() with B 0", x.choose(), harsh);
        x.weight(1, 99);
        list(x, 7, 3, 2, 40, 27);
        // 40/27 is 2153 below 3/2: HARSH is 10 instead of 2, but there is no strain.
        due(13, "choose() that avoids strain", x.choose(), 100000L * (10 + 10 + 10));
        due(13, "chosen(0)", x.chosen(0), 1);
        due(13, "chosen(1)", x.chosen(1), 0);

        // One COMMON note alone never strains.
        JustMoves one = new JustMoves();
        one.note(60, 0, 2);
        one.note(67, 0, 1);
        one.note(53, 1, 2);
        due(13, "choose() with one COMMON note", one.choose(), 400000);

        // Without A both fifths of set 0 go with the like fifth of set 1: the lesser number first.
        JustMoves tie = new JustMoves();
        tie.note(60, 0, 2);
        tie.note(67, 0, 2);
        tie.note(60, 1, 2);
        tie.weight(0, 0);
        list(tie, 7, 40, 27, 3, 2);
        due(13, "choose() of like ways", tie.choose(), 0);
        due(13, "the first set's lesser number", tie.chosen(0), 0);
        due(13, "the second set's", tie.chosen(1), 0);

        JustMoves three = new JustMoves();
        three.note(60, 0, 2);
        three.note(67, 0, 2);
        three.note(72, 0, 2);
        three.note(53, 1, 2);
        list(three, 7, 40, 27);
        list(three, 2, 9, 8);
        three.weight(0, 0);
        // Set 1 has the BASE 53: 60 is 40/27 there, 67 is 9/8 and an octave, 72 is 40/27 and an octave.
        long fifth = 360000 + 278631 - 3 * 190196;
        long d60 = fifth - 70000;
        long d67 = 120000 + 2 * 190196 - 360000 - 70000 - fifth;
        long d72 = fifth + 120000 - 70000 - 120000;
        long strain = 20 * (3 * (d60 * d60 + d67 * d67 + d72 * d72) - (d60 + d67 + d72) * (d60 + d67 + d72));
        due(13, "STRAIN of three", three.choose(), strain);
    }

    private static void chosen() {
        JustMoves x = chord(60, 67);
        due(14, "chosen(0) before", x.chosen(0), NONE);
        due(14, "chosen(1) before", x.chosen(1), BAD);
        list(x, 7, 40, 27, 3, 2);
        x.choose();
        due(14, "chosen(0)", x.chosen(0), 1);
        due(14, "chosen(1)", x.chosen(1), BAD);
        due(14, "chosen(-1)", x.chosen(-1), BAD);
        due(14, "chosen(31)", x.chosen(31), BAD);
        due(14, "chosen(LOW)", x.chosen(LOW), BAD);
        due(14, "chosen(HIGH)", x.chosen(HIGH), BAD);
    }

    /** A score with 20 variables: four chords of five notes, and one more with another note. */
    private static JustMoves twenty() {
        JustMoves x = new JustMoves();
        for (int i = 0; i < 4; i++) {
            x.note(48 + i, 0, 5);
        }
        for (int i = 0; i < 5; i++) {
            x.note(60 + i, i, i + 1);
        }
        x.bind(0, true);
        return x;
    }

    private static void solve() {
        JustMoves x = twenty();
        due(15, "solve() without a CHOICE", x.solve(), STATE);
        x.choose();
        due(15, "solve() with 21 variables", x.solve(), FULL);
        due(15, "loose() then", x.loose(), STATE);
        due(15, "chosen(0) then", x.chosen(0), 0);
        x.bind(1, true);
        due(15, "solve() after a change", x.solve(), STATE);
        x.choose();
        due(15, "solve() with 17 variables", x.solve(), 17);
        due(15, "solve() again", x.solve(), 17);
        x.note(70, 0, 1);
        x.note(70, 1, 2);
        x.note(70, 2, 3);
        x.choose();
        due(15, "solve() with 20 variables", x.solve(), 20);
        due(15, "loose() then", x.loose(), 0);
        x.choose();
        due(15, "THE PLACES after choose()", x.loose(), STATE);
        JustMoves y = chord(60);
        y.choose();
        due(15, "solve() of one note", y.solve(), 1);
    }

    private static void variable() {
        JustMoves x = new JustMoves();
        x.note(60, 0, 6);
        x.note(64, 2, 4);
        x.note(67, 2, 6);
        int[][] free = {{0, -1, -1}, {1, 2, 3}, {4, -1, 5}};
        int[][] tied = {{0, -1, -1}, {0, 1, 2}, {0, -1, 3}};
        int[][] all = {{0, -1, -1}, {0, 1, 2}, {0, -1, 2}};
        dueVariables(x, free);
        x.bind(0, true);
        dueVariables(x, tied);
        x.bind(2, true);
        dueVariables(x, all);
        x.choose();
        x.solve();
        dueVariables(x, all);
        x.bind(0, false);
        x.bind(2, false);
        dueVariables(x, free);
        int[][] bad = {{-1, 0}, {3, 0}, {0, -1}, {0, 3}, {LOW, 0}, {HIGH, 0}, {0, LOW}, {0, HIGH}};
        for (int[] b : bad) {
            due(16, "variable(" + b[0] + ", " + b[1] + ")", x.variable(b[0], b[1]), BAD);
        }
    }

    private static void dueVariables(JustMoves x, int[][] want) {
        for (int set = 0; set < want.length; set++) {
            for (int note = 0; note < want[set].length; note++) {
                due(16, "variable(" + set + ", " + note + ")", x.variable(set, note), want[set][note]);
            }
        }
    }

    private static void loose() {
        JustMoves x = new JustMoves();
        x.note(60, 0, 2);
        x.note(67, 0, 2);
        x.note(62, 1, 2);
        x.note(70, 5, 6);
        x.note(74, 5, 6);
        due(17, "loose() without PLACES", x.loose(), STATE);
        int[][] cases = {{1, 1, 1, 0}, {1, 1, 0, 2}, {1, 0, 0, 3}, {0, 1, 0, 5}, {0, 0, 0, 7}, {0, 0, 1, 0}};
        for (int[] c : cases) {
            x.weight(2, c[0]);
            x.weight(3, c[1]);
            x.weight(4, c[2]);
            due(17, "loose() without a CHOICE", x.loose(), STATE);
            x.choose();
            due(17, "loose() with a CHOICE alone", x.loose(), STATE);
            due(17, "variables", x.solve(), 7);
            due(17, "loose() with H " + c[0] + ", M " + c[1] + ", S " + c[2], x.loose(), c[3]);
        }
        x.bind(1, true);
        x.weight(2, 1);
        x.weight(3, 0);
        x.weight(4, 0);
        x.choose();
        x.solve();
        due(17, "loose() where a BOUND note hangs sets together", x.loose(), 2);
        dueText(17, "the last one of them", x, x.move(1, 2), "0");
        // 3/2 by 9/8 is 70196 - 20392, which is 196 less than five keys.
        dueText(17, "another of them", x, x.move(0, 1), "-196");
    }

    private static JustMoves fifth() {
        JustMoves x = chord(60, 67);
        x.choose();
        x.solve();
        return x;
    }

    private static void place() {
        JustMoves x = chord(60, 67);
        due(18, "place() without PLACES", x.place(0, 0), STATE);
        due(18, "place() of no note, without PLACES", x.place(0, 2), BAD);
        x.choose();
        due(18, "place() with a CHOICE alone", x.place(0, 0), STATE);
        x.solve();
        // The fifth is 196 too narrow: each moves by 4 * 196 / (1 + 2 * 4).
        dueText(18, "place(0, 0)", x, x.place(0, 0), "5399216/9");
        dueText(18, "place(0, 1)", x, x.place(0, 1), "6030784/9");
        int[][] bad = {{-1, 0}, {1, 0}, {0, -1}, {0, 2}, {LOW, 0}, {HIGH, 0}, {0, LOW}, {0, HIGH}};
        for (int[] b : bad) {
            due(18, "place(" + b[0] + ", " + b[1] + ")", x.place(b[0], b[1]), BAD);
        }
        dueText(18, "THE TEXT after refusals", x, 9, "6030784/9");
        x.weight(4, 0);
        x.choose();
        x.solve();
        dueText(18, "place(0, 1), which is loose", x, x.place(0, 1), "670000");
        dueText(18, "place(0, 0) below it", x, x.place(0, 0), "599804");
        JustMoves low = chord(0, 7);
        low.choose();
        low.solve();
        dueText(18, "a place below 0", low, low.place(0, 0), "-784/9");
        low.note(0, 4, 5);
        low.choose();
        low.solve();
        dueText(18, "a place of 0", low, low.place(1, 2), "0");
        due(18, "a note that does not sound there", low.place(1, 0), BAD);
        // The BASE is loose, at 0, and the other one is read as 1/1 above it.
        JustMoves zero = chord(11, 0);
        list(zero, 11, 1, 1);
        zero.weight(4, 0);
        zero.choose();
        zero.solve();
        dueText(18, "a place of 0 far from EQUAL", zero, zero.place(0, 0), "0");
        dueText(19, "the move to it", zero, zero.move(0, 0), "-110000");
        due(21, "near it", zero.near(0, 0), 0);
        // A BOUND note has one place in all its sets, and S counts there for each of them.
        JustMoves held = new JustMoves();
        held.note(60, 0, 2);
        held.note(67, 0, 1);
        held.bind(0, true);
        held.choose();
        held.solve();
        // (2 S + H) u - H v = -H 196 and (S + H) v - H u = H 196: u is -784/14, v is 1568/14.
        dueText(18, "a BOUND note", held, held.place(0, 0), "599944");
        dueText(18, "a BOUND note in its other set", held, held.place(1, 0), "599944");
        dueText(18, "the other note", held, held.place(0, 1), "670112");
    }

    private static void move() {
        JustMoves x = fifth();
        dueText(19, "move(0, 0)", x, x.move(0, 0), "-784/9");
        dueText(19, "move(0, 1)", x, x.move(0, 1), "784/9");
        int[][] bad = {{-1, 0}, {1, 0}, {0, -1}, {0, 2}, {LOW, 0}, {HIGH, 0}, {0, LOW}, {0, HIGH}};
        for (int[] b : bad) {
            due(19, "move(" + b[0] + ", " + b[1] + ")", x.move(b[0], b[1]), BAD);
        }
        dueText(19, "THE TEXT after refusals", x, 5, "784/9");
        x.weight(2, 0);
        due(19, "move() without PLACES", x.move(0, 0), STATE);
        due(19, "move() of no set, without PLACES", x.move(1, 0), BAD);
        x.choose();
        x.solve();
        dueText(19, "a move of 0", x, x.move(0, 0), "0");
        // Free, the held note moves differently in its two sets: with M its moves are drawn together.
        JustMoves held = new JustMoves();
        held.note(60, 0, 2);
        held.note(67, 0, 1);
        held.choose();
        held.solve();
        // u of set 0, v of the fifth, w of set 1: 7 u - 4 v - 2 w = -784, 5 v - 4 u = 784, 3 w - 2 u = 0.
        dueText(19, "set 0", held, held.move(0, 0), "-2352/37");
        dueText(19, "the fifth", held, held.move(0, 1), "3920/37");
        dueText(19, "set 1", held, held.move(1, 0), "-1568/37");
    }

    private static void energy() {
        JustMoves x = chord(60, 67);
        due(20, "energy() without PLACES", x.energy(), STATE);
        x.choose();
        due(20, "energy() with a CHOICE alone", x.energy(), STATE);
        x.solve();
        dueText(20, "energy()", x, x.energy(), "153664/9");
        x.weight(4, 0);
        due(20, "energy() after a change", x.energy(), STATE);
        x.choose();
        x.solve();
        dueText(20, "energy() without S", x, x.energy(), "0");
        x.weight(2, 0);
        x.weight(4, 5);
        x.choose();
        x.solve();
        dueText(20, "energy() without H", x, x.energy(), "0");
        JustMoves held = new JustMoves();
        held.note(60, 0, 2);
        held.note(67, 0, 1);
        held.bind(0, true);
        held.choose();
        held.solve();
        // H (168 - 196) squared, S 56 squared twice, S 112 squared.
        dueText(20, "energy() of a BOUND note", held, held.energy(), "21952");
    }

    private static void near() {
        JustMoves x = fifth();
        due(21, "near(0, 0): down by 87 and a ninth", x.near(0, 0), 599913);
        due(21, "near(0, 1): up by 87 and a ninth", x.near(0, 1), 670087);
        int[][] bad = {{-1, 0}, {1, 0}, {0, -1}, {0, 2}, {LOW, 0}, {HIGH, 0}, {0, LOW}, {0, HIGH}};
        for (int[] b : bad) {
            due(21, "near(" + b[0] + ", " + b[1] + ")", x.near(b[0], b[1]), BAD);
        }
        x.weight(2, 1);
        due(21, "near() without PLACES", x.near(0, 0), STATE);
        due(21, "near() of no note, without PLACES", x.near(0, 5), BAD);
        x.weight(4, 6);
        x.choose();
        x.solve();
        // 196 / 8 is 24 and a half.
        due(21, "a half, down", x.near(0, 0), 600000 - 24);
        due(21, "a half, up", x.near(0, 1), 670025);
        JustMoves low = chord(0, 7);
        low.weight(2, 1);
        low.weight(4, 6);
        low.choose();
        low.solve();
        due(21, "a half below 0", low.near(0, 0), -24);
        low.weight(4, 1);
        low.choose();
        low.solve();
        due(21, "65 and a third below 0", low.near(0, 0), -65);
        low.weight(4, 3);
        low.choose();
        low.solve();
        due(21, "39 and a fifth below 0", low.near(0, 0), -39);
        low.weight(2, 3);
        low.weight(4, 1);
        low.choose();
        low.solve();
        due(21, "84 below 0", low.near(0, 0), -84);
        low.weight(2, 9);
        low.choose();
        low.solve();
        due(21, "92 and 16 nineteenths below 0", low.near(0, 0), -93);
        dueText(21, "THE TEXT, which near does not change", low, 0, "");
    }

    private static void text() {
        JustMoves x = fifth();
        due(22, "text(0) before", x.text(0), NONE);
        due(22, "move(0, 0)", x.move(0, 0), 6);
        String want = "-784/9";
        for (int i = 0; i < 6; i++) {
            due(22, "text(" + i + ")", x.text(i), want.charAt(i));
        }
        due(22, "text(6)", x.text(6), NONE);
        due(22, "text(-1)", x.text(-1), NONE);
        due(22, "text(256)", x.text(256), NONE);
        due(22, "text(LOW)", x.text(LOW), NONE);
        due(22, "text(HIGH)", x.text(HIGH), NONE);
        x.place(0, 0);
        due(22, "text(0) of a longer one", x.text(0), '5');
        x.move(0, 1);
        due(22, "text(5) behind a shorter one", x.text(5), NONE);
        x.clear();
        due(22, "text(0) after clear()", x.text(0), '7');
    }

    /** C, A minor, D minor, G, C: each held note pure, the C comes back a comma lower. */
    private static JustMoves comma() {
        JustMoves x = new JustMoves();
        x.note(60, 0, 2);
        x.note(64, 0, 2);
        x.note(67, 0, 1);
        x.note(57, 1, 3);
        x.note(62, 2, 4);
        x.note(65, 2, 3);
        x.note(59, 3, 4);
        x.note(67, 3, 5);
        x.note(60, 4, 5);
        x.note(64, 4, 5);
        return x;
    }

    private static void pure() {
        JustMoves x = comma();
        due(23, "pure() without a CHOICE", x.pure(0, 0), STATE);
        due(23, "pure() of no set, without a CHOICE", x.pure(5, 0), BAD);
        x.choose();
        int[][] want = {{0, 0, 0, 0, 0, 0, 0, 0}, {-1, -1, 1, 0, 0, 0, 0, 0}, {-1, -1, 1, 0, 0, 0, 0, 0},
            {0, -3, 2, 0, 0, 0, 0, 0}, {4, -4, 1, 0, 0, 0, 0, -2153}};
        want[1][7] = 278631 - 190196 - 120000 + 30000;
        want[2][7] = want[1][7];
        want[3][7] = 2 * 278631 - 3 * 190196 + 10000;
        for (int set = 0; set < 5; set++) {
            for (int what = 0; what < 8; what++) {
                due(23, "pure(" + set + ", " + what + ")", x.pure(set, what), want[set][what]);
            }
        }
        int[][] bad = {{-1, 0}, {5, 0}, {0, -1}, {0, 8}, {LOW, 0}, {HIGH, 0}, {0, LOW}, {0, HIGH}};
        for (int[] b : bad) {
            due(23, "pure(" + b[0] + ", " + b[1] + ")", x.pure(b[0], b[1]), BAD);
        }
        // Octaves count, and a silence begins a chain.
        JustMoves y = new JustMoves();
        y.note(36, 0, 1);
        y.note(67, 0, 2);
        y.note(60, 1, 2);
        y.note(61, 3, 5);
        y.note(50, 4, 5);
        list(y, 11, 13, 7);
        list(y, 7, 49, 33);
        y.choose();
        int[][] chain = {{0, 0, 0, 0, 0, 0, 0}, {2, 0, 0, 0, 0, 0, 0}, {0, 0, 0, 0, 0, 0, 2}, {0, 0, 0, 1, 0, -1, 2}};
        for (int set = 0; set < 4; set++) {
            for (int what = 0; what < 7; what++) {
                due(23, "pure(" + set + ", " + what + ")", y.pure(set, what), chain[set][what]);
            }
        }
        due(23, "DRIFT in the second chain", y.pure(3, 7), 336883 - 444053 + 110000);
    }

    private static void pump() {
        JustMoves x = comma();
        due(24, "pump() without a CHOICE", x.pump(0, 0), STATE);
        due(24, "a wrong pump() without a CHOICE", x.pump(-1, 0), BAD);
        x.choose();
        due(24, "pump(0, 0)", x.pump(0, 0), 0);
        due(24, "pump(0, 1)", x.pump(0, 1), 4);
        due(24, "pump(0, 2)", x.pump(0, 2), -2153);
        due(24, "pump(1, 0)", x.pump(1, 0), NONE);
        due(24, "pump(HIGH, 0)", x.pump(HIGH, 0), NONE);
        due(24, "pump(-1, 0)", x.pump(-1, 0), BAD);
        due(24, "pump(LOW, 0)", x.pump(LOW, 0), BAD);
        due(24, "pump(0, -1)", x.pump(0, -1), BAD);
        due(24, "pump(0, 3)", x.pump(0, 3), BAD);
        due(24, "pump(0, HIGH)", x.pump(0, HIGH), BAD);
        // The A minor once more: sets 1, 2 and 5 have the BASE 57; 1 and 2 have one DRIFT.
        x.note(57, 5, 6);
        x.note(60, 4, 6);
        x.choose();
        int[][] want = {{0, 4}, {1, 5}, {2, 5}};
        for (int i = 0; i < 3; i++) {
            due(24, "pump(" + i + ", 0)", x.pump(i, 0), want[i][0]);
            due(24, "pump(" + i + ", 1)", x.pump(i, 1), want[i][1]);
            due(24, "pump(" + i + ", 2)", x.pump(i, 2), -2153);
        }
        due(24, "pump(3, 0)", x.pump(3, 0), NONE);
        // Another chain with the same BASE is no pump.
        JustMoves y = comma();
        y.note(60, 7, 8);
        y.choose();
        due(24, "pump(1, 0) with another chain", y.pump(1, 0), NONE);
    }

    /** What changes notes, BOUND ones, ratios, weights, also to the same, takes THE CHOICE and THE PLACES away. */
    private static void invalidation() {
        for (int change = 0; change < 8; change++) {
            JustMoves x = fifth();
            x.empty(6);
            x.choose();
            x.solve();
            switch (change) {
                case 0 -> x.note(60, 0, 1);
                case 1 -> x.bind(0, false);
                case 2 -> x.bind(0, true);
                case 3 -> x.ratio(3, 7, 6);
                case 4 -> x.empty(3);
                case 5 -> x.empty(6);
                case 6 -> x.weight(0, 100000);
                default -> x.weight(4, 2);
            }
            due(14, "chosen(0) after change " + change, x.chosen(0), NONE);
            due(18, "place(0, 0) after change " + change, x.place(0, 0), STATE);
            due(15, "solve() after change " + change, x.solve(), STATE);
            due(23, "pure(0, 0) after change " + change, x.pure(0, 0), STATE);
            due(24, "pump(0, 0) after change " + change, x.pump(0, 0), STATE);
        }
        JustMoves x = fifth();
        x.note(128, 0, 1);
        x.bind(2, true);
        x.ratio(7, 3, 2);
        x.empty(12);
        x.weight(0, -1);
        due(14, "chosen(0) after refusals", x.chosen(0), 0);
        due(21, "near(0, 0) after refusals", x.near(0, 0), 599913);
    }
}
