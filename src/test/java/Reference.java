import java.math.BigInteger;
import java.util.ArrayList;
import java.util.Arrays;
import java.util.List;
import java.util.TreeSet;

/**
 * The document once more, written as plainly as can be and by other means than JustMoves: long
 * numbers of the library, fractions all the way, every way through the readings compared as a list.
 */
final class Reference {
    static final int BAD = -1, STATE = -2, FULL = -3, NONE = -9;
    private static final int[] PRIMES = {2, 3, 5, 7, 11, 13};
    private static final long[] LOGS = {120000, 190196, 278631, 336883, 415132, 444053};

    record Note(int key, int from, int to) { }

    record Ratio(int up, int down) {
        Ratio by(Ratio o) {
            int a = up * o.down;
            int b = down * o.up;
            int g = gcd(a, b);
            return new Ratio(a / g, b / g);
        }

        long size() {
            long sum = 0;
            for (int i = 0; i < 6; i++) {
                sum += LOGS[i] * (often(up, PRIMES[i]) - often(down, PRIMES[i]));
            }
            return sum;
        }

        int harsh() {
            int sum = 0;
            for (int n : new int[] {up, down}) {
                int rest = n;
                for (int p = 2; rest > 1; p++) {
                    while (rest % p == 0) {
                        rest /= p;
                        sum += p == 2 ? 0 : p - 1;
                    }
                }
            }
            return sum;
        }
    }

    record Fraction(BigInteger n, BigInteger d) {
        static Fraction of(BigInteger n, BigInteger d) {
            BigInteger g = n.gcd(d);
            if (d.signum() < 0) {
                g = g.negate();
            }
            return new Fraction(n.divide(g), d.divide(g));
        }

        static Fraction of(long n) {
            return new Fraction(BigInteger.valueOf(n), BigInteger.ONE);
        }

        Fraction plus(Fraction o) {
            return of(n.multiply(o.d).add(o.n.multiply(d)), d.multiply(o.d));
        }

        Fraction minus(Fraction o) {
            return of(n.multiply(o.d).subtract(o.n.multiply(d)), d.multiply(o.d));
        }

        Fraction times(Fraction o) {
            return of(n.multiply(o.n), d.multiply(o.d));
        }

        Fraction dividedBy(Fraction o) {
            return of(n.multiply(o.d), d.multiply(o.n));
        }

        @Override public String toString() {
            return d.equals(BigInteger.ONE) ? n.toString() : n + "/" + d;
        }
    }

    final List<Note> notes = new ArrayList<>();
    final List<Boolean> bound = new ArrayList<>();
    final List<List<Ratio>> lists = new ArrayList<>();
    final int[] weights = {100000, 1, 4, 2, 1};
    List<int[]> setTicks = new ArrayList<>();
    int[] choice;
    Fraction[] places;
    int looseCount;
    Fraction energy;
    String text = "";

    Reference() {
        int[] up = {1, 16, 9, 6, 5, 4, 45, 3, 8, 5, 9, 15};
        int[] down = {1, 15, 8, 5, 4, 3, 32, 2, 5, 3, 5, 8};
        for (int i = 0; i < 12; i++) {
            lists.add(new ArrayList<>(List.of(new Ratio(up[i], down[i]))));
        }
    }

    static int gcd(int a, int b) {
        return b == 0 ? a : gcd(b, a % b);
    }

    static int often(int n, int p) {
        return n % p == 0 ? 1 + often(n / p, p) : 0;
    }

    static boolean hasPrimeAbove13(int n) {
        for (int p = 14; p <= n; p++) {
            if (n % p == 0 && BigInteger.valueOf(p).isProbablePrime(30)) {
                return true;
            }
        }
        return false;
    }

    private void changed() {
        choice = null;
        places = null;
        findSets();
    }

    private void findSets() {
        TreeSet<Integer> ticks = new TreeSet<>();
        for (Note n : notes) {
            ticks.add(n.from);
            ticks.add(n.to);
        }
        setTicks = new ArrayList<>();
        Integer before = null;
        for (int tick : ticks) {
            if (before != null && !soundingAt(before).isEmpty()) {
                setTicks.add(new int[] {before, tick});
            }
            before = tick;
        }
    }

    private List<Integer> soundingAt(int tick) {
        List<Integer> found = new ArrayList<>();
        for (int i = 0; i < notes.size(); i++) {
            if (notes.get(i).from <= tick && tick < notes.get(i).to) {
                found.add(i);
            }
        }
        return found;
    }

    List<Integer> members(int set) {
        return soundingAt(setTicks.get(set)[0]);
    }

    int base(int set) {
        int base = -1;
        for (int n : members(set)) {
            if (base < 0 || notes.get(n).key < notes.get(base).key) {
                base = n;
            }
        }
        return base;
    }

    int baseKey(int set) {
        return notes.get(base(set)).key;
    }

    /** All readings of a set in their order, each with a ratio for every member. */
    List<List<Ratio>> readings(int set) {
        List<List<Ratio>> all = new ArrayList<>();
        all.add(List.of());
        for (int n : members(set)) {
            List<Ratio> list = n == base(set) ? List.of(new Ratio(1, 1))
                : lists.get((notes.get(n).key - baseKey(set)) % 12);
            List<List<Ratio>> longer = new ArrayList<>();
            for (List<Ratio> start : all) {
                for (Ratio r : list) {
                    List<Ratio> one = new ArrayList<>(start);
                    one.add(r);
                    longer.add(one);
                }
            }
            all = longer;
        }
        return all;
    }

    long target(int set, List<Ratio> reading, int note) {
        return 120000L * ((notes.get(note).key - baseKey(set)) / 12)
            + reading.get(members(set).indexOf(note)).size();
    }

    int harshOf(List<Ratio> reading) {
        int sum = 0;
        for (int i = 0; i < reading.size(); i++) {
            for (int j = 0; j < i; j++) {
                sum += reading.get(i).by(reading.get(j)).harsh();
            }
        }
        return sum;
    }

    List<Integer> common(int k) {
        List<Integer> both = new ArrayList<>(members(k));
        both.retainAll(members(k + 1));
        return both;
    }

    long strain(int k, List<Ratio> one, List<Ratio> two) {
        long m = 0;
        long sum = 0;
        long squares = 0;
        for (int n : common(k)) {
            long d = target(k + 1, two, n) - target(k, one, n) + 10000L * (baseKey(k + 1) - baseKey(k));
            m++;
            sum += d;
            squares += d * d;
        }
        return m == 0 ? 0 : 60 / m * (m * squares - sum * sum);
    }

    int note(int key, int from, int to) {
        if (key < 0 || key > 127 || from < 0 || from > 9998 || to < from + 1 || to > 9999) {
            return BAD;
        }
        if (notes.size() == 16) {
            return FULL;
        }
        for (int tick = from; tick < to; tick++) {
            if (soundingAt(tick).size() + 1 > 6) {
                return FULL;
            }
        }
        notes.add(new Note(key, from, to));
        bound.add(false);
        changed();
        return notes.size() - 1;
    }

    int clear() {
        int count = notes.size();
        notes.clear();
        bound.clear();
        changed();
        return count;
    }

    int bind(int note, boolean on) {
        if (note < 0 || note >= notes.size()) {
            return BAD;
        }
        changed();
        return bound.set(note, on) ? 1 : 0;
    }

    int ratio(int type, int up, int down) {
        if (type < 0 || type > 11 || up < 1 || up > 9999 || down < 1 || down > 9999) {
            return BAD;
        }
        if (up < down || up >= 2 * down || gcd(up, down) != 1 || hasPrimeAbove13(up) || hasPrimeAbove13(down)) {
            return BAD;
        }
        List<Ratio> list = lists.get(type);
        if (list.contains(new Ratio(up, down))) {
            return BAD;
        }
        if (list.size() == 3) {
            return FULL;
        }
        list.add(new Ratio(up, down));
        changed();
        return list.size() - 1;
    }

    int empty(int type) {
        if (type < 0 || type > 11) {
            return BAD;
        }
        int count = lists.get(type).size();
        lists.get(type).clear();
        changed();
        return count;
    }

    int weight(int what, int v) {
        if (what < 0 || what > 4 || v < 0 || v > (what == 0 ? 1000000 : 99)) {
            return BAD;
        }
        int old = weights[what];
        weights[what] = v;
        changed();
        return old;
    }

    int sets() {
        return setTicks.size();
    }

    private boolean noSet(int set) {
        return set < 0 || set >= sets();
    }

    private boolean notThere(int set, int note) {
        return noSet(set) || !members(set).contains(note);
    }

    int set(int set, int what) {
        if (noSet(set) || what < 0 || what > 4) {
            return BAD;
        }
        int[] all = {setTicks.get(set)[0], setTicks.get(set)[1], base(set), members(set).size(),
            readings(set).size()};
        return all[what];
    }

    int sounds(int set, int note) {
        if (noSet(set) || note < 0 || note >= notes.size()) {
            return BAD;
        }
        return members(set).contains(note) ? 1 : 0;
    }

    int reading(int set, int reading, int note, int what) {
        if (notThere(set, note) || reading < 0 || reading >= readings(set).size() || what < 0 || what > 2) {
            return BAD;
        }
        List<Ratio> one = readings(set).get(reading);
        Ratio r = one.get(members(set).indexOf(note));
        return what == 0 ? r.up : what == 1 ? r.down : (int) target(set, one, note);
    }

    int harsh(int set, int reading) {
        if (noSet(set) || reading < 0 || reading >= readings(set).size()) {
            return BAD;
        }
        return harshOf(readings(set).get(reading));
    }

    /** A way is its cost, then its readings: the least one by comparing all of it. */
    private static boolean isLess(long[] one, long[] other) {
        return other == null || Arrays.compare(one, other) < 0;
    }

    private static long[] extended(long[] way, long cost, long reading) {
        long[] longer = Arrays.copyOf(way, way.length + 1);
        longer[0] += cost;
        longer[way.length] = reading;
        return longer;
    }

    long choose() {
        if (sets() == 0) {
            return STATE;
        }
        boolean many = false;
        for (int k = 0; k < sets(); k++) {
            if (readings(k).isEmpty()) {
                return STATE;
            }
            many |= readings(k).size() > 64;
        }
        if (many) {
            return FULL;
        }
        List<long[]> ways = new ArrayList<>();
        for (int k = 0; k < sets(); k++) {
            ways = k == 0 ? firstWays() : longerWays(ways, k);
        }
        long[] best = null;
        for (long[] way : ways) {
            best = isLess(way, best) ? way : best;
        }
        choice = new int[sets()];
        for (int k = 0; k < sets(); k++) {
            choice[k] = (int) best[k + 1];
        }
        places = null;
        return best[0];
    }

    private List<long[]> firstWays() {
        List<long[]> ways = new ArrayList<>();
        List<List<Ratio>> all = readings(0);
        for (int r = 0; r < all.size(); r++) {
            ways.add(extended(new long[] {0}, (long) weights[0] * harshOf(all.get(r)), r));
        }
        return ways;
    }

    private List<long[]> longerWays(List<long[]> ways, int k) {
        List<long[]> longer = new ArrayList<>();
        List<List<Ratio>> before = readings(k - 1);
        List<List<Ratio>> all = readings(k);
        long[][] offsets = offsets(k - 1, before, common(k - 1));
        long[][] offsetsHere = offsets(k, all, common(k - 1));
        for (int r = 0; r < all.size(); r++) {
            long[] best = null;
            long own = (long) weights[0] * harshOf(all.get(r));
            for (int q = 0; q < before.size(); q++) {
                long[] way = extended(ways.get(q), own + weights[1] * spread(offsets[q], offsetsHere[r]), r);
                best = isLess(way, best) ? way : best;
            }
            longer.add(best);
        }
        return longer;
    }

    private long[][] offsets(int set, List<List<Ratio>> all, List<Integer> common) {
        long[][] rows = new long[all.size()][common.size()];
        for (int r = 0; r < rows.length; r++) {
            for (int i = 0; i < rows[r].length; i++) {
                rows[r][i] = target(set, all.get(r), common.get(i)) + 10000L * baseKey(set);
            }
        }
        return rows;
    }

    /** STRAIN by pairs: m times the squares less the squared sum is the sum over pairs of squared differences. */
    private static long spread(long[] one, long[] two) {
        long sum = 0;
        for (int i = 0; i < one.length; i++) {
            for (int j = 0; j < i; j++) {
                long d = (two[i] - one[i]) - (two[j] - one[j]);
                sum += d * d;
            }
        }
        return one.length == 0 ? 0 : 60 / one.length * sum;
    }

    /** The COST of any way by the words of the document. */
    long costOf(int[] way) {
        long cost = 0;
        for (int k = 0; k < sets(); k++) {
            cost += (long) weights[0] * harshOf(readings(k).get(way[k]));
            if (k > 0) {
                cost += weights[1] * strain(k - 1, readings(k - 1).get(way[k - 1]), readings(k).get(way[k]));
            }
        }
        return cost;
    }

    int chosen(int set) {
        return noSet(set) ? BAD : choice == null ? NONE : choice[set];
    }

    int variable(int set, int note) {
        if (notThere(set, note)) {
            return BAD;
        }
        List<Integer> keys = variables();
        int first = set;
        while (bound.get(note) && first > 0 && members(first - 1).contains(note)) {
            first--;
        }
        return keys.indexOf(first * 100 + note);
    }

    /** Each variable as 100 times its set and its note. */
    List<Integer> variables() {
        List<Integer> all = new ArrayList<>();
        boolean[] seen = new boolean[16];
        for (int k = 0; k < sets(); k++) {
            for (int n : members(k)) {
                if (!bound.get(n) || !seen[n]) {
                    all.add(k * 100 + n);
                }
                seen[n] = true;
            }
        }
        return all;
    }

    /** A term weight * (x - y - d) squared; without y (x - d) squared. */
    record Term(long weight, int x, int y, long d) { }

    private List<Term> terms() {
        List<Term> terms = new ArrayList<>();
        for (int k = 0; k < sets(); k++) {
            List<Ratio> r = readings(k).get(choice[k]);
            for (int a : members(k)) {
                for (int b : members(k)) {
                    if (a < b) {
                        terms.add(new Term(weights[2], variable(k, a), variable(k, b),
                            target(k, r, a) - target(k, r, b)));
                    }
                }
                terms.add(new Term(weights[4], variable(k, a), -1, 10000L * notes.get(a).key));
            }
            if (k + 1 < sets()) {
                for (int n : common(k)) {
                    if (!bound.get(n)) {
                        terms.add(new Term(weights[3], variable(k, n), variable(k + 1, n), 0));
                    }
                }
            }
        }
        return terms;
    }

    int solve() {
        if (choice == null) {
            return STATE;
        }
        List<Integer> variables = variables();
        int n = variables.size();
        if (n > 20) {
            return FULL;
        }
        List<Term> terms = terms();
        boolean[] loose = weights[4] == 0 ? findLoose(n, terms) : new boolean[n];
        Fraction[][] a = equations(n, terms);
        looseCount = 0;
        for (int i = 0; i < n; i++) {
            if (loose[i]) {
                looseCount++;
                Arrays.fill(a[i], Fraction.of(0));
                a[i][i] = Fraction.of(1);
                a[i][n] = Fraction.of(10000L * notes.get(variables.get(i) % 100).key);
            }
        }
        places = solved(a);
        energy = Fraction.of(0);
        for (Term t : terms) {
            Fraction off = places[t.x].minus(Fraction.of(t.d));
            off = t.y < 0 ? off : off.minus(places[t.y]);
            energy = energy.plus(off.times(off).times(Fraction.of(t.weight)));
        }
        return n;
    }

    /** Half of the derivative of ENERGY by each variable is 0. */
    private static Fraction[][] equations(int n, List<Term> terms) {
        Fraction[][] a = new Fraction[n][n + 1];
        for (Fraction[] row : a) {
            Arrays.fill(row, Fraction.of(0));
        }
        for (Term t : terms) {
            Fraction w = Fraction.of(t.weight);
            Fraction wd = Fraction.of(t.weight * t.d);
            a[t.x][t.x] = a[t.x][t.x].plus(w);
            a[t.x][n] = a[t.x][n].plus(wd);
            if (t.y >= 0) {
                a[t.y][t.y] = a[t.y][t.y].plus(w);
                a[t.x][t.y] = a[t.x][t.y].minus(w);
                a[t.y][t.x] = a[t.y][t.x].minus(w);
                a[t.y][n] = a[t.y][n].minus(wd);
            }
        }
        return a;
    }

    private static Fraction[] solved(Fraction[][] a) {
        int n = a.length;
        for (int i = 0; i < n; i++) {
            int row = i;
            while (a[row][i].n().signum() == 0) {
                row++;
            }
            Fraction[] kept = a[i];
            a[i] = a[row];
            a[row] = kept;
            for (int k = 0; k < n; k++) {
                if (k != i && a[k][i].n().signum() != 0) {
                    Fraction f = a[k][i].dividedBy(a[i][i]);
                    for (int j = i; j <= n; j++) {
                        if (a[i][j].n().signum() != 0) {
                            a[k][j] = a[k][j].minus(f.times(a[i][j]));
                        }
                    }
                }
            }
        }
        Fraction[] x = new Fraction[n];
        for (int i = 0; i < n; i++) {
            x[i] = a[i][n].dividedBy(a[i][i]);
        }
        return x;
    }

    private static boolean[] findLoose(int n, List<Term> terms) {
        int[] group = new int[n];
        for (int i = 0; i < n; i++) {
            group[i] = i;
        }
        for (Term t : terms) {
            if (t.y >= 0 && t.weight > 0) {
                int from = group[t.x];
                for (int i = 0; i < n; i++) {
                    if (group[i] == from) {
                        group[i] = group[t.y];
                    }
                }
            }
        }
        boolean[] loose = new boolean[n];
        for (int i = 0; i < n; i++) {
            boolean last = true;
            for (int j = i + 1; j < n; j++) {
                last &= group[j] != group[i];
            }
            loose[i] = last;
        }
        return loose;
    }

    int loose() {
        return places == null ? STATE : looseCount;
    }

    int place(int set, int note) {
        if (notThere(set, note)) {
            return BAD;
        }
        if (places == null) {
            return STATE;
        }
        text = places[variable(set, note)].toString();
        return text.length();
    }

    int move(int set, int note) {
        if (notThere(set, note)) {
            return BAD;
        }
        if (places == null) {
            return STATE;
        }
        text = places[variable(set, note)].minus(Fraction.of(10000L * notes.get(note).key)).toString();
        return text.length();
    }

    int energy() {
        if (places == null) {
            return STATE;
        }
        text = energy.toString();
        return text.length();
    }

    int near(int set, int note) {
        if (notThere(set, note)) {
            return BAD;
        }
        if (places == null) {
            return STATE;
        }
        Fraction up = places[variable(set, note)].plus(Fraction.of(BigInteger.ONE, BigInteger.TWO));
        BigInteger[] parts = up.n().divideAndRemainder(up.d());
        return parts[0].intValueExact() - (parts[1].signum() < 0 ? 1 : 0);
    }

    int text(int i) {
        return i < 0 || i >= text.length() ? NONE : text.charAt(i);
    }

    private int start(int set) {
        return set == 0 || common(set - 1).isEmpty() ? set : start(set - 1);
    }

    private int[] powers(int set, int note) {
        Ratio r = readings(set).get(choice[set]).get(members(set).indexOf(note));
        int[] powers = new int[6];
        for (int i = 0; i < 6; i++) {
            powers[i] = often(r.up, PRIMES[i]) - often(r.down, PRIMES[i]);
        }
        powers[0] += (notes.get(note).key - baseKey(set)) / 12;
        return powers;
    }

    private int[] shift(int set) {
        if (start(set) == set) {
            return new int[6];
        }
        int[] shift = shift(set - 1);
        int note = common(set - 1).get(0);
        for (int i = 0; i < 6; i++) {
            shift[i] += powers(set - 1, note)[i] - powers(set, note)[i];
        }
        return shift;
    }

    private int drift(int set) {
        int[] shift = shift(set);
        long size = 0;
        for (int i = 0; i < 6; i++) {
            size += LOGS[i] * shift[i];
        }
        return (int) (size - 10000L * (baseKey(set) - baseKey(start(set))));
    }

    int pure(int set, int what) {
        if (noSet(set) || what < 0 || what > 7) {
            return BAD;
        }
        if (choice == null) {
            return STATE;
        }
        return what < 6 ? shift(set)[what] : what == 6 ? start(set) : drift(set);
    }

    int pump(int i, int what) {
        if (i < 0 || what < 0 || what > 2) {
            return BAD;
        }
        if (choice == null) {
            return STATE;
        }
        List<int[]> pumps = new ArrayList<>();
        for (int l = 0; l < sets(); l++) {
            for (int k = 0; k < l; k++) {
                if (start(k) == start(l) && baseKey(k) == baseKey(l) && drift(k) != drift(l)) {
                    pumps.add(new int[] {k, l, drift(l) - drift(k)});
                }
            }
        }
        return i < pumps.size() ? pumps.get(i)[what] : NONE;
    }
}
