import java.util.Arrays;

/** Chords tuned purely, and moved as little as can be. DOC.md says what each call promises. */
public final class JustMoves {
    public static final int BAD = -1, STATE = -2, FULL = -3, NONE = -9;

    private static final int NOTES = 16, SOUNDING = 6;
    /** 16 notes have 32 ticks at most, and so 31 parts of time between them. */
    private static final int SETS = 31;
    private static final int GREATEST_KEY = 127, GREATEST_TICK = 9999;
    private static final int OCTAVE = 120000, STEP = 10000, STEPS = 12;

    private static final int CLASSES = 12, LISTED = 3, GREATEST_TERM = 9999;
    /** The slot of 1/1 for BASES, behind those of all lists: a BASE needs no list. */
    private static final int UNISON = CLASSES * LISTED;
    private static final int SLOTS = UNISON + 1;
    private static final int[] PRIMES = {2, 3, 5, 7, 11, 13};
    private static final int[] LOGS = {120000, 190196, 278631, 336883, 415132, 444053};
    private static final int PRIME_COUNT = 6;
    /** No number up to 9999 has a prime more often: it is below 2 to the power of 14. */
    private static final int MOST_POWERS = 14;
    private static final int[] FIRST_UP = {1, 16, 9, 6, 5, 4, 45, 3, 8, 5, 9, 15};
    private static final int[] FIRST_DOWN = {1, 15, 8, 5, 4, 3, 32, 2, 5, 3, 5, 8};

    private static final int A = 0, B = 1, H = 2, M = 3, S = 4, WEIGHTS = 5;
    private static final int[] FIRST_WEIGHTS = {100000, 1, 4, 2, 1};
    private static final int[] GREATEST_WEIGHTS = {1000000, 99, 99, 99, 99};

    private static final int READINGS = 64, VARIABLES = 20;
    /** Far above each COST, which stays below 2 to the power of 57. */
    private static final long ENDLESS = 1L << 62;

    /** The greatest primes below 2 to the power of 30. */
    private static final int[] MODULI = {
        1073741789, 1073741783, 1073741741, 1073741723, 1073741719,
        1073741717, 1073741689, 1073741671, 1073741663, 1073741651,
        1073741621, 1073741567, 1073741561, 1073741527, 1073741503,
        1073741477, 1073741467, 1073741441, 1073741419, 1073741399};
    private static final int MODULUS_COUNT = 20;
    /**
     * How many primes are wanted. The determinant is at most the product of the diagonal, which is
     * below 2 to the power of 242, and the least ENERGY is below 2 to the power of 52: ten primes
     * would do. Eight at most divide the determinant, so that enough of the twenty are left.
     */
    private static final int DIGITS = 11;
    /** Behind the moves of the variables stand the determinant and the ENERGY times it. */
    private static final int DETERMINANT = VARIABLES, ENERGY = VARIABLES + 1, UNKNOWNS = VARIABLES + 2;

    private static final int LIMB_BITS = 30, LIMBS = 12, LIMB_MASK = (1 << LIMB_BITS) - 1;
    private static final int WHOLE_BITS = LIMB_BITS * LIMBS;
    private static final int TEXT_BYTES = 256;

    private final int[] weights = new int[WEIGHTS];
    private final Ratios ratios = new Ratios();
    private final Score score = new Score();
    private final Readings readings;
    private final Choice choice;
    private final Chains chains;
    private final Squares squares;
    private final Solver solver;
    private final Fraction fraction = new Fraction();
    private final Text text = new Text();
    private boolean hasChoice;
    private boolean hasPlaces;

    public JustMoves() {
        System.arraycopy(FIRST_WEIGHTS, 0, weights, 0, WEIGHTS);
        readings = new Readings(score, ratios);
        choice = new Choice(score, readings, weights);
        chains = new Chains(score, ratios, readings, choice);
        squares = new Squares(score, readings, choice, weights);
        solver = new Solver(squares);
    }

    public int note(int key, int from, int to) {
        if (key < 0 || key > GREATEST_KEY || from < 0 || to <= from || to > GREATEST_TICK) {
            return BAD;
        }
        if (score.isFullFor(from, to)) {
            return FULL;
        }
        forget();
        return score.append(key, from, to);
    }

    public int clear() {
        forget();
        return score.removeAll();
    }

    public int bind(int note, boolean on) {
        if (!score.hasNote(note)) {
            return BAD;
        }
        forget();
        return score.tie(note, on) ? 1 : 0;
    }

    public int ratio(int type, int up, int down) {
        if (type < 0 || type >= CLASSES || !Ratios.isAllowed(up, down) || ratios.holds(type, up, down)) {
            return BAD;
        }
        if (ratios.counts[type] >= LISTED) {
            return FULL;
        }
        forget();
        return ratios.append(type, up, down);
    }

    public int empty(int type) {
        if (type < 0 || type >= CLASSES) {
            return BAD;
        }
        forget();
        return ratios.removeAll(type);
    }

    public int weight(int what, int v) {
        if (what < 0 || what >= WEIGHTS || v < 0 || v > GREATEST_WEIGHTS[what]) {
            return BAD;
        }
        forget();
        int old = weights[what];
        weights[what] = v;
        return old;
    }

    public int sets() {
        return score.setCount;
    }

    public int set(int set, int what) {
        if (!score.hasSet(set)) {
            return BAD;
        }
        switch (what) {
            case 0: return score.setFrom[set];
            case 1: return score.setTo[set];
            case 2: return score.bases[set];
            case 3: return score.sizes[set];
            case 4: return readings.countOf(set);
            default: return BAD;
        }
    }

    public int sounds(int set, int note) {
        if (!score.hasSet(set) || !score.hasNote(note)) {
            return BAD;
        }
        return score.isIn(set, note) ? 1 : 0;
    }

    public int reading(int set, int reading, int note, int what) {
        if (!readings.has(set, reading) || !score.isPart(set, note)) {
            return BAD;
        }
        readings.open(set, reading);
        switch (what) {
            case 0: return ratios.ups[readings.slots[note]];
            case 1: return ratios.downs[readings.slots[note]];
            case 2: return readings.targetOf(set, note);
            default: return BAD;
        }
    }

    public int harsh(int set, int reading) {
        if (!readings.has(set, reading)) {
            return BAD;
        }
        readings.open(set, reading);
        return readings.harshness(set);
    }

    public long choose() {
        if (score.setCount == 0 || readings.leastCount() == 0) {
            return STATE;
        }
        if (readings.greatestCount() > READINGS) {
            return FULL;
        }
        hasPlaces = false;
        hasChoice = true;
        long cost = choice.make();
        chains.make();
        return cost;
    }

    public int chosen(int set) {
        if (!score.hasSet(set)) {
            return BAD;
        }
        return hasChoice ? choice.readingOf[set] : NONE;
    }

    public int solve() {
        if (!hasChoice) {
            return STATE;
        }
        if (score.variableCount > VARIABLES) {
            return FULL;
        }
        squares.gather();
        solver.run();
        hasPlaces = true;
        return score.variableCount;
    }

    public int variable(int set, int note) {
        return score.isPart(set, note) ? score.variableOf(set, note) : BAD;
    }

    public int loose() {
        return hasPlaces ? squares.looseCount : STATE;
    }

    public int place(int set, int note) {
        int refusal = takeMove(set, note);
        if (refusal != 0) {
            return refusal;
        }
        fraction.addWhole(score.equalOf(note));
        return text.write(fraction);
    }

    public int move(int set, int note) {
        int refusal = takeMove(set, note);
        return refusal != 0 ? refusal : text.write(fraction);
    }

    public int energy() {
        if (!hasPlaces) {
            return STATE;
        }
        fraction.take(solver.values[ENERGY], solver.values[DETERMINANT]);
        return text.write(fraction);
    }

    public int near(int set, int note) {
        int refusal = takeMove(set, note);
        return refusal != 0 ? refusal : score.equalOf(note) + fraction.rounded();
    }

    public int text(int i) {
        return i < 0 || i >= text.length ? NONE : text.bytes[i];
    }

    public int pure(int set, int what) {
        if (!score.hasSet(set) || what < 0 || what > PRIME_COUNT + 1) {
            return BAD;
        }
        if (!hasChoice) {
            return STATE;
        }
        if (what < PRIME_COUNT) {
            return chains.shifts[set * PRIME_COUNT + what];
        }
        return what == PRIME_COUNT ? chains.starts[set] : chains.drifts[set];
    }

    public int pump(int i, int what) {
        if (i < 0 || what < 0 || what > 2) {
            return BAD;
        }
        if (!hasChoice) {
            return STATE;
        }
        return chains.findPump(i) ? chains.ofPump(what) : NONE;
    }

    private void forget() {
        hasChoice = false;
        hasPlaces = false;
    }

    /** The fraction becomes the move of a note: 0, or a refusal. */
    private int takeMove(int set, int note) {
        if (!score.isPart(set, note)) {
            return BAD;
        }
        if (!hasPlaces) {
            return STATE;
        }
        fraction.take(solver.values[score.variableOf(set, note)], solver.values[DETERMINANT]);
        return 0;
    }

    /** The lists of ratios. The ratio n of a CLASS is in slot LISTED * CLASS + n. */
    private static final class Ratios {
        final int[] ups = new int[SLOTS];
        final int[] downs = new int[SLOTS];
        final int[] sizes = new int[SLOTS];
        final int[] powers = new int[SLOTS * PRIME_COUNT];
        final int[] counts = new int[CLASSES];

        Ratios() {
            for (int type = 0; type < CLASSES; type++) {
                append(type, FIRST_UP[type], FIRST_DOWN[type]);
            }
            store(UNISON, 1, 1);
        }

        static boolean isAllowed(int up, int down) {
            if (up < 1 || up > GREATEST_TERM || down < 1 || down > GREATEST_TERM) {
                return false;
            }
            if (up < down || up >= 2 * down) {
                return false;
            }
            return hasSmallPrimes(up) && hasSmallPrimes(down) && !shareSmallPrime(up, down);
        }

        private static boolean hasSmallPrimes(int number) {
            int rest = number;
            for (int p = 0; p < PRIME_COUNT; p++) {
                for (int i = 0; i < MOST_POWERS && rest % PRIMES[p] == 0; i++) {
                    rest /= PRIMES[p];
                }
            }
            return rest == 1;
        }

        private static boolean shareSmallPrime(int up, int down) {
            for (int p = 0; p < PRIME_COUNT; p++) {
                if (up % PRIMES[p] == 0 && down % PRIMES[p] == 0) {
                    return true;
                }
            }
            return false;
        }

        private static int powerIn(int number, int prime) {
            int power = 0;
            int rest = number;
            while (power < MOST_POWERS && rest % prime == 0) {
                rest /= prime;
                power++;
            }
            return power;
        }

        boolean holds(int type, int up, int down) {
            for (int i = 0; i < counts[type]; i++) {
                int slot = type * LISTED + i;
                if (ups[slot] == up && downs[slot] == down) {
                    return true;
                }
            }
            return false;
        }

        int append(int type, int up, int down) {
            int number = counts[type];
            store(type * LISTED + number, up, down);
            counts[type] = number + 1;
            return number;
        }

        private void store(int slot, int up, int down) {
            ups[slot] = up;
            downs[slot] = down;
            sizes[slot] = 0;
            for (int p = 0; p < PRIME_COUNT; p++) {
                int power = powerIn(up, PRIMES[p]) - powerIn(down, PRIMES[p]);
                powers[slot * PRIME_COUNT + p] = power;
                sizes[slot] += power * LOGS[p];
            }
        }

        int removeAll(int type) {
            int count = counts[type];
            counts[type] = 0;
            return count;
        }

        /** HARSH of one ratio by another one; the prime 2 does not count. */
        int harshness(int one, int other) {
            int sum = 0;
            for (int p = 1; p < PRIME_COUNT; p++) {
                int power = powers[one * PRIME_COUNT + p] - powers[other * PRIME_COUNT + p];
                sum += Math.abs(power) * (PRIMES[p] - 1);
            }
            return sum;
        }
    }

    /** The notes, and what follows from them alone: the sets and the numbers of the variables. */
    private static final class Score {
        int noteCount;
        final int[] keys = new int[NOTES];
        final int[] noteFrom = new int[NOTES];
        final int[] noteTo = new int[NOTES];
        final boolean[] bound = new boolean[NOTES];
        int setCount;
        final int[] setFrom = new int[SETS];
        final int[] setTo = new int[SETS];
        final int[] bases = new int[SETS];
        final int[] sizes = new int[SETS];
        final int[] members = new int[SETS * SOUNDING];
        int variableCount;
        final int[] variables = new int[SETS * NOTES];
        int commonCount;
        final int[] common = new int[SOUNDING];

        boolean hasNote(int note) {
            return note >= 0 && note < noteCount;
        }

        boolean hasSet(int set) {
            return set >= 0 && set < setCount;
        }

        /** Whether there are such a set and such a note, and it sounds there. */
        boolean isPart(int set, int note) {
            return hasSet(set) && hasNote(note) && isIn(set, note);
        }

        boolean isIn(int set, int note) {
            return isAt(setFrom[set], note);
        }

        private boolean isAt(int tick, int note) {
            return noteFrom[note] <= tick && tick < noteTo[note];
        }

        int equalOf(int note) {
            return STEP * keys[note];
        }

        int baseKey(int set) {
            return keys[bases[set]];
        }

        int variableOf(int set, int note) {
            return variables[set * NOTES + note];
        }

        /** The most notes sound where one begins, so that other ticks need no look. */
        boolean isFullFor(int from, int to) {
            if (noteCount >= NOTES || soundingAt(from) >= SOUNDING) {
                return true;
            }
            for (int note = 0; note < noteCount; note++) {
                int tick = noteFrom[note];
                if (tick > from && tick < to && soundingAt(tick) >= SOUNDING) {
                    return true;
                }
            }
            return false;
        }

        private int soundingAt(int tick) {
            int count = 0;
            for (int note = 0; note < noteCount; note++) {
                if (isAt(tick, note)) {
                    count++;
                }
            }
            return count;
        }

        int append(int key, int from, int to) {
            int note = noteCount;
            keys[note] = key;
            noteFrom[note] = from;
            noteTo[note] = to;
            bound[note] = false;
            noteCount = note + 1;
            findSets();
            numberVariables();
            return note;
        }

        int removeAll() {
            int count = noteCount;
            noteCount = 0;
            setCount = 0;
            variableCount = 0;
            return count;
        }

        boolean tie(int note, boolean on) {
            boolean old = bound[note];
            bound[note] = on;
            numberVariables();
            return old;
        }

        private void findSets() {
            setCount = 0;
            int tick = tickAfter(-1);
            for (int i = 0; i < SETS && tick < GREATEST_TICK; i++) {
                int next = tickAfter(tick);
                if (soundingAt(tick) > 0) {
                    appendSet(tick, next);
                }
                tick = next;
            }
        }

        /** The first tick after another one at which a note begins or ends, or the last of all. */
        private int tickAfter(int tick) {
            int least = GREATEST_TICK;
            for (int note = 0; note < noteCount; note++) {
                if (noteFrom[note] > tick) {
                    least = Math.min(least, noteFrom[note]);
                }
                if (noteTo[note] > tick) {
                    least = Math.min(least, noteTo[note]);
                }
            }
            return least;
        }

        private void appendSet(int from, int to) {
            int set = setCount;
            int size = 0;
            int base = -1;
            for (int note = 0; note < noteCount && size < SOUNDING; note++) {
                if (isAt(from, note)) {
                    members[set * SOUNDING + size] = note;
                    size++;
                    base = base < 0 || keys[note] < keys[base] ? note : base;
                }
            }
            setFrom[set] = from;
            setTo[set] = to;
            sizes[set] = size;
            bases[set] = Math.max(base, 0);
            setCount = set + 1;
        }

        /** The sets of a note follow one another, so that a BOUND one is known from the set before. */
        private void numberVariables() {
            variableCount = 0;
            for (int set = 0; set < setCount; set++) {
                for (int i = 0; i < sizes[set]; i++) {
                    int note = members[set * SOUNDING + i];
                    if (bound[note] && set > 0 && isIn(set - 1, note)) {
                        variables[set * NOTES + note] = variableOf(set - 1, note);
                    } else {
                        variables[set * NOTES + note] = variableCount;
                        variableCount++;
                    }
                }
            }
        }

        /** Lists the notes that are COMMON to a set and the next one. */
        void findCommon(int set) {
            commonCount = 0;
            if (!hasSet(set) || !hasSet(set + 1)) {
                return;
            }
            for (int i = 0; i < sizes[set]; i++) {
                int note = members[set * SOUNDING + i];
                if (isIn(set + 1, note)) {
                    common[commonCount] = note;
                    commonCount++;
                }
            }
        }
    }

    /** The READINGS of the sets; one of them at a time is open, as a slot for each note. */
    private static final class Readings {
        private final Score score;
        private final Ratios ratios;
        final int[] slots = new int[NOTES];

        Readings(Score score, Ratios ratios) {
            this.score = score;
            this.ratios = ratios;
        }

        boolean has(int set, int reading) {
            return score.hasSet(set) && reading >= 0 && reading < countOf(set);
        }

        int countOf(int set) {
            int count = 1;
            for (int i = 0; i < score.sizes[set]; i++) {
                int note = score.members[set * SOUNDING + i];
                if (note != score.bases[set]) {
                    count *= ratios.counts[typeOf(set, note)];
                }
            }
            return count;
        }

        int leastCount() {
            int least = READINGS;
            for (int set = 0; set < score.setCount; set++) {
                least = Math.min(least, countOf(set));
            }
            return least;
        }

        int greatestCount() {
            int greatest = 0;
            for (int set = 0; set < score.setCount; set++) {
                greatest = Math.max(greatest, countOf(set));
            }
            return greatest;
        }

        private int stepsAboveBase(int set, int note) {
            return score.keys[note] - score.keys[score.bases[set]];
        }

        private int typeOf(int set, int note) {
            return Math.floorMod(stepsAboveBase(set, note), STEPS);
        }

        int octavesOf(int set, int note) {
            return stepsAboveBase(set, note) / STEPS;
        }

        /** The last note's ratio runs fastest, so that the digits are taken from the last note on. */
        void open(int set, int reading) {
            int rest = reading;
            for (int i = score.sizes[set] - 1; i >= 0; i--) {
                int note = score.members[set * SOUNDING + i];
                int type = typeOf(set, note);
                int count = ratios.counts[type];
                if (note == score.bases[set] || count < 1) {
                    slots[note] = UNISON;
                } else {
                    slots[note] = type * LISTED + rest % count;
                    rest /= count;
                }
            }
        }

        int targetOf(int set, int note) {
            return OCTAVE * octavesOf(set, note) + ratios.sizes[slots[note]];
        }

        /** How far the TARGET of a note is from its place by equal steps above the BASE. */
        int deviationOf(int set, int note) {
            return targetOf(set, note) - STEP * stepsAboveBase(set, note);
        }

        int harshness(int set) {
            int sum = 0;
            int start = set * SOUNDING;
            for (int i = 0; i < score.sizes[set]; i++) {
                int one = slots[score.members[start + i]];
                for (int j = i + 1; j < score.sizes[set]; j++) {
                    sum += ratios.harshness(one, slots[score.members[start + j]]);
                }
            }
            return sum;
        }
    }

    /**
     * THE CHOICE, found from the last set back to the first: then the first set's least reading,
     * and each one's least follower, give the lesser numbers at the first difference.
     */
    private static final class Choice {
        private final Score score;
        private final Readings readings;
        private final int[] weights;
        final int[] readingOf = new int[SETS];
        private final int[] counts = new int[SETS];
        private final long[] costs = new long[READINGS];
        private final long[] costsAhead = new long[READINGS];
        private final int[] followers = new int[SETS * READINGS];
        private final int[] offsets = new int[READINGS * SOUNDING];
        private final int[] offsetsAhead = new int[READINGS * SOUNDING];

        Choice(Score score, Readings readings, int[] weights) {
            this.score = score;
            this.readings = readings;
            this.weights = weights;
        }

        long make() {
            countReadings();
            for (int set = score.setCount - 1; set >= 0; set--) {
                weighReadings(set);
                if (set + 1 < score.setCount) {
                    joinNext(set);
                }
                System.arraycopy(costs, 0, costsAhead, 0, READINGS);
            }
            return followLeast();
        }

        private void countReadings() {
            for (int set = 0; set < score.setCount; set++) {
                counts[set] = Math.min(readings.countOf(set), READINGS);
            }
        }

        private void weighReadings(int set) {
            for (int reading = 0; reading < counts[set]; reading++) {
                readings.open(set, reading);
                costs[reading] = (long) weights[A] * readings.harshness(set);
            }
        }

        private void joinNext(int set) {
            score.findCommon(set);
            fillOffsets(set, offsets);
            fillOffsets(set + 1, offsetsAhead);
            for (int reading = 0; reading < counts[set]; reading++) {
                joinReading(set, reading);
            }
        }

        private void fillOffsets(int set, int[] row) {
            int base = STEP * score.baseKey(set);
            for (int reading = 0; reading < counts[set]; reading++) {
                readings.open(set, reading);
                for (int i = 0; i < score.commonCount; i++) {
                    row[reading * SOUNDING + i] = base + readings.targetOf(set, score.common[i]);
                }
            }
        }

        private void joinReading(int set, int reading) {
            long least = ENDLESS;
            int follower = 0;
            for (int ahead = 0; ahead < counts[set + 1]; ahead++) {
                // STRAIN is never below 0, so what is too dear without it needs no look.
                if (costsAhead[ahead] < least) {
                    long cost = costsAhead[ahead] + weights[B] * strain(reading, ahead);
                    if (cost < least) {
                        least = cost;
                        follower = ahead;
                    }
                }
            }
            costs[reading] += least;
            followers[set * READINGS + reading] = follower;
        }

        private long strain(int reading, int ahead) {
            int count = score.commonCount;
            if (count < 1) {
                return 0;
            }
            long sum = 0;
            long squares = 0;
            for (int i = 0; i < count; i++) {
                long d = offsetsAhead[ahead * SOUNDING + i] - offsets[reading * SOUNDING + i];
                sum += d;
                squares += d * d;
            }
            return 60 / count * (count * squares - sum * sum);
        }

        private long followLeast() {
            int reading = 0;
            for (int other = 1; other < counts[0]; other++) {
                if (costs[other] < costs[reading]) {
                    reading = other;
                }
            }
            long cost = costs[reading];
            for (int set = 0; set < score.setCount; set++) {
                readingOf[set] = reading;
                reading = followers[set * READINGS + reading];
            }
            return cost;
        }
    }

    /** The CHAINS of sets, their SHIFTS and DRIFTS, and the PUMPS. */
    private static final class Chains {
        private final Score score;
        private final Ratios ratios;
        private final Readings readings;
        private final Choice choice;
        final int[] shifts = new int[SETS * PRIME_COUNT];
        final int[] starts = new int[SETS];
        final int[] drifts = new int[SETS];
        private int pumpFirst;
        private int pumpSecond;

        Chains(Score score, Ratios ratios, Readings readings, Choice choice) {
            this.score = score;
            this.ratios = ratios;
            this.readings = readings;
            this.choice = choice;
        }

        void make() {
            for (int set = 0; set < score.setCount; set++) {
                score.findCommon(set - 1);
                if (score.commonCount > 0) {
                    goOn(set, score.common[0]);
                } else {
                    begin(set);
                }
                drifts[set] = driftOf(set);
            }
        }

        private void begin(int set) {
            starts[set] = set;
            for (int p = 0; p < PRIME_COUNT; p++) {
                shifts[set * PRIME_COUNT + p] = 0;
            }
        }

        private void goOn(int set, int note) {
            starts[set] = starts[set - 1];
            System.arraycopy(shifts, (set - 1) * PRIME_COUNT, shifts, set * PRIME_COUNT, PRIME_COUNT);
            multiply(set, set - 1, note, 1);
            multiply(set, set, note, -1);
        }

        /** Multiplies the SHIFT of a set by the ratio that a note has in a set, with its octaves. */
        private void multiply(int set, int place, int note, int sign) {
            readings.open(place, choice.readingOf[place]);
            int slot = readings.slots[note];
            for (int p = 0; p < PRIME_COUNT; p++) {
                shifts[set * PRIME_COUNT + p] += sign * ratios.powers[slot * PRIME_COUNT + p];
            }
            shifts[set * PRIME_COUNT] += sign * readings.octavesOf(place, note);
        }

        private int driftOf(int set) {
            int size = 0;
            for (int p = 0; p < PRIME_COUNT; p++) {
                size += shifts[set * PRIME_COUNT + p] * LOGS[p];
            }
            return size - STEP * (score.baseKey(set) - score.baseKey(starts[set]));
        }

        boolean findPump(int wanted) {
            int seen = 0;
            for (int second = 0; second < score.setCount; second++) {
                for (int first = 0; first < second; first++) {
                    if (isPump(first, second)) {
                        if (seen == wanted) {
                            pumpFirst = first;
                            pumpSecond = second;
                            return true;
                        }
                        seen++;
                    }
                }
            }
            return false;
        }

        private boolean isPump(int first, int second) {
            return starts[first] == starts[second] && score.baseKey(first) == score.baseKey(second)
                && drifts[first] != drifts[second];
        }

        int ofPump(int what) {
            if (what == 0) {
                return pumpFirst;
            }
            return what == 1 ? pumpSecond : drifts[pumpSecond] - drifts[pumpFirst];
        }
    }

    /**
     * ENERGY as equations: matrix times moves is right. The unknowns are the moves from EQUAL, not
     * the places, for then a LOOSE one is 0 and all numbers stay small.
     */
    private static final class Squares {
        private final Score score;
        private final Readings readings;
        private final Choice choice;
        private final int[] weights;
        int size;
        int looseCount;
        /** ENERGY with all moves 0. */
        long unmoved;
        final long[][] matrix = new long[VARIABLES][VARIABLES];
        final long[] right = new long[VARIABLES];
        private final int[] lasts = new int[VARIABLES];

        Squares(Score score, Readings readings, Choice choice, int[] weights) {
            this.score = score;
            this.readings = readings;
            this.choice = choice;
            this.weights = weights;
        }

        void gather() {
            reset();
            for (int set = 0; set < score.setCount; set++) {
                addChord(set);
                addMoves(set);
                addEquals(set);
            }
            if (weights[S] == 0) {
                fixLoose();
            }
        }

        private void reset() {
            size = Math.min(score.variableCount, VARIABLES);
            looseCount = 0;
            unmoved = 0;
            for (int i = 0; i < VARIABLES; i++) {
                Arrays.fill(matrix[i], 0L);
            }
            Arrays.fill(right, 0L);
        }

        private void addChord(int set) {
            readings.open(set, choice.readingOf[set]);
            int start = set * SOUNDING;
            for (int i = 0; i < score.sizes[set]; i++) {
                int one = score.members[start + i];
                for (int j = i + 1; j < score.sizes[set]; j++) {
                    int other = score.members[start + j];
                    long apart = readings.deviationOf(set, one) - readings.deviationOf(set, other);
                    addPair(score.variableOf(set, one), score.variableOf(set, other), weights[H], apart);
                }
            }
        }

        private void addMoves(int set) {
            score.findCommon(set);
            for (int i = 0; i < score.commonCount; i++) {
                int note = score.common[i];
                if (!score.bound[note]) {
                    addPair(score.variableOf(set, note), score.variableOf(set + 1, note), weights[M], 0);
                }
            }
        }

        private void addEquals(int set) {
            for (int i = 0; i < score.sizes[set]; i++) {
                int x = score.variableOf(set, score.members[set * SOUNDING + i]);
                if (x < size) {
                    matrix[x][x] += weights[S];
                }
            }
        }

        /** Adds weight * (x - y - apart) squared. */
        private void addPair(int x, int y, long weight, long apart) {
            if (x >= size || y >= size) {
                return;
            }
            matrix[x][x] += weight;
            matrix[y][y] += weight;
            matrix[x][y] -= weight;
            matrix[y][x] -= weight;
            right[x] += weight * apart;
            right[y] -= weight * apart;
            unmoved += weight * apart * apart;
        }

        private void fixLoose() {
            findLasts();
            for (int x = 0; x < size; x++) {
                if (lasts[x] == x) {
                    fix(x);
                }
            }
        }

        /** For each variable the last one that hangs together with it. */
        private void findLasts() {
            for (int x = 0; x < size; x++) {
                lasts[x] = x;
            }
            boolean changed = true;
            for (int pass = 0; pass < size && changed; pass++) {
                changed = false;
                for (int x = 0; x < size; x++) {
                    changed |= pullLast(x);
                }
            }
        }

        private boolean pullLast(int x) {
            int last = lasts[x];
            for (int y = 0; y < size; y++) {
                if (matrix[x][y] != 0) {
                    last = Math.max(last, lasts[y]);
                }
            }
            boolean changed = last != lasts[x];
            lasts[x] = last;
            return changed;
        }

        private void fix(int x) {
            for (int y = 0; y < size; y++) {
                matrix[x][y] = 0;
                matrix[y][x] = 0;
            }
            matrix[x][x] = 1;
            right[x] = 0;
            looseCount++;
        }
    }

    /**
     * Solves the equations exactly. They are solved by the remainders of primes, which keeps every
     * step small; the long numbers are put together from the remainders in the end alone.
     */
    private static final class Solver {
        private final Squares squares;
        /** Moves times the determinant, the determinant, ENERGY times the determinant. */
        final Whole[] values = new Whole[UNKNOWNS];
        private final long[][] work = new long[VARIABLES][VARIABLES + 1];
        private final long[][] remainders = new long[DIGITS][UNKNOWNS];
        private final long[] moduli = new long[DIGITS];
        private final long[] inverses = new long[DIGITS];
        private final long[] digits = new long[DIGITS];
        private int used;

        Solver(Squares squares) {
            this.squares = squares;
            for (int i = 0; i < UNKNOWNS; i++) {
                values[i] = new Whole();
            }
        }

        void run() {
            used = 0;
            for (int i = 0; i < MODULUS_COUNT && used < DIGITS; i++) {
                if (solveBy(MODULI[i], remainders[used])) {
                    useModulus(MODULI[i]);
                }
            }
            for (int i = 0; i < squares.size; i++) {
                putTogether(i);
            }
            putTogether(DETERMINANT);
            putTogether(ENERGY);
        }

        private void useModulus(long modulus) {
            long product = 1;
            for (int i = 0; i < used; i++) {
                product = product * moduli[i] % modulus;
            }
            moduli[used] = modulus;
            inverses[used] = inverse(product, modulus);
            used++;
        }

        /** False if the prime divides the determinant: then it tells nothing of the moves. */
        private boolean solveBy(long modulus, long[] row) {
            load(modulus);
            long determinant = eliminate(modulus);
            if (determinant == 0) {
                return false;
            }
            int size = squares.size;
            for (int i = size - 1; i >= 0; i--) {
                long value = work[i][size];
                for (int j = i + 1; j < size; j++) {
                    value -= work[i][j] * row[j] % modulus;
                }
                row[i] = Math.floorMod(value, modulus);
            }
            long energy = Math.floorMod(squares.unmoved, modulus) * determinant % modulus;
            for (int i = 0; i < size; i++) {
                row[i] = row[i] * determinant % modulus;
                energy -= Math.floorMod(squares.right[i], modulus) * row[i] % modulus;
            }
            row[DETERMINANT] = determinant;
            row[ENERGY] = Math.floorMod(energy, modulus);
            return true;
        }

        private void load(long modulus) {
            int size = squares.size;
            for (int i = 0; i < size; i++) {
                for (int j = 0; j < size; j++) {
                    work[i][j] = Math.floorMod(squares.matrix[i][j], modulus);
                }
                work[i][size] = Math.floorMod(squares.right[i], modulus);
            }
        }

        /** Makes ones of the diagonal and zeros below it: the determinant. */
        private long eliminate(long modulus) {
            int size = squares.size;
            long determinant = 1;
            for (int i = 0; i < size; i++) {
                int row = findRow(i);
                if (row < 0) {
                    return 0;
                }
                if (row != i) {
                    swapRows(i, row);
                    determinant = modulus - determinant;
                }
                determinant = determinant * work[i][i] % modulus;
                long factor = inverse(work[i][i], modulus);
                for (int j = i; j <= size; j++) {
                    work[i][j] = work[i][j] * factor % modulus;
                }
                for (int below = i + 1; below < size; below++) {
                    subtractRow(i, below, modulus);
                }
            }
            return determinant;
        }

        private int findRow(int column) {
            for (int row = column; row < squares.size; row++) {
                if (work[row][column] != 0) {
                    return row;
                }
            }
            return -1;
        }

        private void swapRows(int one, int other) {
            for (int j = 0; j <= squares.size; j++) {
                long kept = work[one][j];
                work[one][j] = work[other][j];
                work[other][j] = kept;
            }
        }

        private void subtractRow(int row, int below, long modulus) {
            long factor = work[below][row];
            if (factor == 0) {
                return;
            }
            long opposite = modulus - factor;
            for (int j = row; j <= squares.size; j++) {
                work[below][j] = (work[below][j] + opposite * work[row][j]) % modulus;
            }
        }

        /** The number to the power of the prime less 2. */
        private static long inverse(long number, long modulus) {
            long result = 1;
            long square = number;
            for (int bit = 0; bit < LIMB_BITS; bit++) {
                if ((modulus - 2 >> bit & 1) == 1) {
                    result = result * square % modulus;
                }
                square = square * square % modulus;
            }
            return result;
        }

        private void putTogether(int unknown) {
            findDigits(unknown, 1);
            // The primes reach far beyond all numbers, so that only one below 0 is in the upper half.
            boolean negative = used > 0 && digits[used - 1] > moduli[used - 1] / 2;
            if (negative) {
                findDigits(unknown, -1);
            }
            Whole value = values[unknown];
            value.become(0);
            for (int i = used - 1; i >= 0; i--) {
                value.timesPlus((int) moduli[i], (int) digits[i]);
            }
            value.negative = negative;
        }

        /** Digit i counts products of the first i primes. */
        private void findDigits(int unknown, int sign) {
            for (int i = 0; i < used; i++) {
                long modulus = moduli[i];
                long known = 0;
                for (int j = i - 1; j >= 0; j--) {
                    known = (known * moduli[j] + digits[j]) % modulus;
                }
                long rest = Math.floorMod(sign * remainders[i][unknown] - known, modulus);
                digits[i] = rest * inverses[i] % modulus;
            }
        }
    }

    /** A whole number of any length that can come about; its row is made once and used again. */
    private static final class Whole {
        /** The lowest limb first. */
        final int[] limbs = new int[LIMBS];
        boolean negative;

        void become(int number) {
            Arrays.fill(limbs, 0);
            limbs[0] = number;
            negative = false;
        }

        void copy(Whole other) {
            System.arraycopy(other.limbs, 0, limbs, 0, LIMBS);
            negative = other.negative;
        }

        /** Whether the number, without its sign, is a small one. */
        boolean hasSize(int number) {
            for (int i = 1; i < LIMBS; i++) {
                if (limbs[i] != 0) {
                    return false;
                }
            }
            return limbs[0] == number;
        }

        void timesPlus(int factor, int more) {
            long carry = more;
            for (int i = 0; i < LIMBS; i++) {
                carry += (long) limbs[i] * factor;
                limbs[i] = (int) (carry & LIMB_MASK);
                carry >>= LIMB_BITS;
            }
        }

        int compareSize(Whole other) {
            for (int i = LIMBS - 1; i >= 0; i--) {
                if (limbs[i] != other.limbs[i]) {
                    return limbs[i] < other.limbs[i] ? -1 : 1;
                }
            }
            return 0;
        }

        void add(Whole other) {
            if (negative == other.negative) {
                combine(this, other, 1);
            } else if (compareSize(other) >= 0) {
                combine(this, other, -1);
                negative = negative && !hasSize(0);
            } else {
                combine(other, this, -1);
                negative = other.negative;
            }
        }

        void subtractSize(Whole other) {
            combine(this, other, -1);
        }

        private void combine(Whole one, Whole two, int sign) {
            int carry = 0;
            for (int i = 0; i < LIMBS; i++) {
                carry += one.limbs[i] + sign * two.limbs[i];
                limbs[i] = carry & LIMB_MASK;
                carry >>= LIMB_BITS;
            }
        }

        /** How often 2 is a prime of the number. */
        int twos() {
            for (int i = 0; i < LIMBS; i++) {
                if (limbs[i] != 0) {
                    return i * LIMB_BITS + Integer.bitCount((limbs[i] & -limbs[i]) - 1);
                }
            }
            return 0;
        }

        void dropBits(int count) {
            int whole = count / LIMB_BITS;
            int bits = count % LIMB_BITS;
            for (int i = 0; i < LIMBS; i++) {
                int low = limbAt(i + whole) >> bits;
                int high = limbAt(i + whole + 1) << LIMB_BITS - bits;
                limbs[i] = (low | high) & LIMB_MASK;
            }
        }

        private int limbAt(int i) {
            return i >= 0 && i < LIMBS ? limbs[i] : 0;
        }

        /** Divides by ten: the remainder. */
        int dropDigit() {
            long rest = 0;
            for (int i = LIMBS - 1; i >= 0; i--) {
                rest = rest << LIMB_BITS | limbs[i];
                limbs[i] = (int) (rest / 10);
                rest %= 10;
            }
            return (int) rest;
        }

        /** Divides by an odd number that leaves no remainder, so that the lowest limb comes first. */
        void divideByOdd(Whole divisor) {
            int inverse = divisor.inverseOfLowest();
            for (int i = 0; i < LIMBS; i++) {
                int quotient = limbs[i] * inverse & LIMB_MASK;
                long carry = 0;
                for (int j = i; j < LIMBS; j++) {
                    carry += limbs[j] - (long) quotient * divisor.limbs[j - i];
                    limbs[j] = (int) (carry & LIMB_MASK);
                    carry >>= LIMB_BITS;
                }
                limbs[i] = quotient;
            }
        }

        /** An odd number is its own inverse in three bits; each step doubles the bits. */
        private int inverseOfLowest() {
            int inverse = limbs[0];
            for (int step = 0; step < 4; step++) {
                inverse *= 2 - limbs[0] * inverse;
            }
            return inverse;
        }
    }

    /** A fraction that is worked on; what is below is above 0. */
    private static final class Fraction {
        final Whole above = new Whole();
        final Whole below = new Whole();
        private final Whole left = new Whole();
        private final Whole right = new Whole();

        void take(Whole newAbove, Whole newBelow) {
            above.copy(newAbove);
            below.copy(newBelow);
        }

        void addWhole(int number) {
            left.copy(below);
            left.timesPlus(number, 0);
            above.add(left);
        }

        void bringToLowestTerms() {
            if (above.hasSize(0)) {
                below.become(1);
                return;
            }
            int twos = Math.min(above.twos(), below.twos());
            above.dropBits(twos);
            below.dropBits(twos);
            findOddDivisor();
            above.divideByOdd(left);
            below.divideByOdd(left);
        }

        /** The left one becomes the greatest odd common divisor; each step drops a bit at least. */
        private void findOddDivisor() {
            left.copy(above);
            right.copy(below);
            left.dropBits(left.twos());
            right.dropBits(right.twos());
            for (int step = 0; step < 2 * WHOLE_BITS; step++) {
                int order = left.compareSize(right);
                if (order == 0) {
                    return;
                }
                Whole greater = order > 0 ? left : right;
                greater.subtractSize(order > 0 ? right : left);
                greater.dropBits(greater.twos());
            }
        }

        /** The nearest whole number, a half up: twice above and once below, by twice below, downwards. */
        int rounded() {
            left.copy(below);
            above.timesPlus(2, 0);
            above.add(left);
            below.timesPlus(2, 0);
            int quotient = quotientOfSizes();
            if (!above.negative) {
                return quotient;
            }
            left.copy(below);
            left.timesPlus(quotient, 0);
            return left.compareSize(above) == 0 ? -quotient : -quotient - 1;
        }

        /** Moves are far below 2 to the power of 31, so that the quotient is found bit by bit. */
        private int quotientOfSizes() {
            int quotient = 0;
            for (int bit = 1 << 30; bit > 0; bit >>= 1) {
                left.copy(below);
                left.timesPlus(quotient + bit, 0);
                if (left.compareSize(above) <= 0) {
                    quotient += bit;
                }
            }
            return quotient;
        }
    }

    /** THE TEXT. */
    private static final class Text {
        final byte[] bytes = new byte[TEXT_BYTES];
        int length;

        int write(Fraction fraction) {
            fraction.bringToLowestTerms();
            length = 0;
            if (fraction.above.negative) {
                append('-');
            }
            appendSize(fraction.above);
            if (!fraction.below.hasSize(1)) {
                append('/');
                appendSize(fraction.below);
            }
            return length;
        }

        private void append(int character) {
            if (length < TEXT_BYTES) {
                bytes[length] = (byte) character;
                length++;
            }
        }

        /** The number is used up; its last digit comes first, so that they are turned round. */
        private void appendSize(Whole number) {
            int start = length;
            append('0' + number.dropDigit());
            for (int i = 1; i < TEXT_BYTES && !number.hasSize(0); i++) {
                append('0' + number.dropDigit());
            }
            for (int low = start, high = length - 1; low < high; low++, high--) {
                byte kept = bytes[low];
                bytes[low] = bytes[high];
                bytes[high] = kept;
            }
        }
    }
}
