import java.util.ArrayList;
import java.util.List;

/**
 * One object of JustMoves whose calls are written as words ("note 60 0 4", "bind 0 on"). It keeps
 * within the 512 calls that are promised, and tells the whole run where an answer is not the one
 * that is due.
 */
final class Run {
    static final int BAD = JustMoves.BAD, STATE = JustMoves.STATE, FULL = JustMoves.FULL, NONE = JustMoves.NONE;
    static final int LOW = Integer.MIN_VALUE, HIGH = Integer.MAX_VALUE;
    static final int CALLS = 512;

    private static final int SEEN_SETS = 3, SEEN_NOTES = 6, SEEN_READINGS = 3, SEEN_BYTES = 40;

    private final JustMoves moves = new JustMoves();
    private final List<String> log = new ArrayList<>();
    private boolean told;

    /** Calls that prepare a case: none of them may be refused. */
    Run does(String... calls) {
        for (String call : calls) {
            long got = answer(call);
            if (got < 0) {
                tell(call + " answered " + got + ", it is not to be refused");
            }
        }
        return this;
    }

    Run due(long want, String... calls) {
        for (String call : calls) {
            long got = answer(call);
            if (got != want) {
                tell(call + " answered " + got + ", due is " + want);
            }
        }
        return this;
    }

    /** A call that writes THE TEXT: how many bytes, and all of them. */
    Run dueText(String want, String call) {
        due(want.length(), call);
        return dueText(want);
    }

    Run dueText(String want) {
        String got = text(want.length() + 1);
        if (!got.equals(want)) {
            tell("THE TEXT is " + got + ", due is " + want);
        }
        return this;
    }

    /** Each note is three numbers: its key, from, to. */
    Run notes(int... numbers) {
        for (int i = 0; i < numbers.length; i += 3) {
            does("note " + numbers[i] + " " + numbers[i + 1] + " " + numbers[i + 2]);
        }
        return this;
    }

    /** The list of a CLASS becomes these ratios, up and down by turns. */
    Run lists(int type, int... terms) {
        does("empty " + type);
        for (int i = 0; i < terms.length; i += 2) {
            does("ratio " + type + " " + terms[i] + " " + terms[i + 1]);
        }
        return this;
    }

    Run weighs(int a, int b, int h, int m, int s) {
        return does("weight 0 " + a, "weight 1 " + b, "weight 2 " + h, "weight 3 " + m, "weight 4 " + s);
    }

    Run solves() {
        return does("choose", "solve");
    }

    /** The calls that led to it are told with the first wrong answer alone. */
    private void tell(String what) {
        Sentences.fail(told ? what : String.join("; ", log) + "\n    " + what);
        told = true;
    }

    /** Byte by byte up to NONE, or as many as are asked for. */
    private String text(int most) {
        StringBuilder text = new StringBuilder();
        for (int i = 0; i < most; i++) {
            long next = answer("text " + i);
            if (next == NONE) {
                break;
            }
            text.append((char) next);
        }
        return text.toString();
    }

    long answer(String call) {
        if (log.size() == CALLS) {
            throw new IllegalStateException("an object is used for " + CALLS + " calls alone");
        }
        String[] words = call.split(" ");
        long got = answer(words, words.length > 1 ? number(words[1]) : 0, words.length > 2 ? number(words[2]) : 0);
        log.add(call + " = " + got);
        return got;
    }

    private static int number(String word) {
        return word.equals("on") ? 1 : word.equals("off") ? 0 : Integer.parseInt(word);
    }

    private long answer(String[] words, int a, int b) {
        return switch (words[0]) {
            case "note" -> moves.note(a, b, number(words[3]));
            case "clear" -> moves.clear();
            case "bind" -> moves.bind(a, b == 1);
            case "ratio" -> moves.ratio(a, b, number(words[3]));
            case "empty" -> moves.empty(a);
            case "weight" -> moves.weight(a, b);
            case "sets" -> moves.sets();
            case "set" -> moves.set(a, b);
            case "sounds" -> moves.sounds(a, b);
            case "reading" -> moves.reading(a, b, number(words[3]), number(words[4]));
            case "harsh" -> moves.harsh(a, b);
            case "choose" -> moves.choose();
            case "chosen" -> moves.chosen(a);
            case "solve" -> moves.solve();
            case "variable" -> moves.variable(a, b);
            case "loose" -> moves.loose();
            case "place" -> moves.place(a, b);
            case "move" -> moves.move(a, b);
            case "energy" -> moves.energy();
            case "near" -> moves.near(a, b);
            case "text" -> moves.text(a);
            case "pure" -> moves.pure(a, b);
            case "pump" -> moves.pump(a, b);
            default -> throw new IllegalArgumentException(words[0]);
        };
    }

    /** All that can be told of the object; it is taken apart by this. */
    String seen() {
        int before = log.size();
        text(SEEN_BYTES);
        answer("sets");
        for (int set = 0; set < SEEN_SETS; set++) {
            seeSet(set);
        }
        answer("loose");
        for (int what = 0; what < 3; what++) {
            answer("pump 0 " + what);
        }
        answer("energy");
        text(SEEN_BYTES);
        answer("place 0 0");
        text(SEEN_BYTES);
        seeByChanges();
        return String.join("\n", log.subList(before, log.size()));
    }

    private void seeSet(int set) {
        answer("chosen " + set);
        for (int what = 0; what < 8; what++) {
            answer("set " + set + " " + what);
            answer("pure " + set + " " + what);
        }
        for (int reading = 0; reading < SEEN_READINGS; reading++) {
            answer("harsh " + set + " " + reading);
        }
        for (int note = 0; note < SEEN_NOTES; note++) {
            answer("sounds " + set + " " + note);
            answer("variable " + set + " " + note);
            answer("near " + set + " " + note);
            answer("reading " + set + " 1 " + note + " 2");
        }
    }

    /** Weights, BOUND ones and lists are told by what a change of them answers. */
    private void seeByChanges() {
        for (int what = 0; what < 5; what++) {
            answer("weight " + what + " 0");
        }
        for (int note = 0; note <= 16; note++) {
            answer("bind " + note + " off");
        }
        for (int type = 0; type < 12; type++) {
            answer("clear");
            answer("note 60 0 1");
            answer("note " + (60 + type) + " 0 1");
            for (int reading = 0; reading < SEEN_READINGS; reading++) {
                answer("reading 0 " + reading + " 1 0");
                answer("reading 0 " + reading + " 1 1");
            }
            answer("empty " + type);
        }
    }
}
