import java.util.function.Supplier;

/** Runs the tests of the document's sentences, one for each, and counts those that are broken. */
final class Sentences {
    private static String open = "";
    private static boolean broken;
    private static int brokenCount;
    private static int count;

    private Sentences() { }

    /** The words are those of the document; the place is its heading. */
    static void test(String place, String words, Runnable test) {
        open = place + ": \"" + words + "\"";
        broken = false;
        try {
            test.run();
        } catch (RuntimeException e) {
            fail(e.toString());
        }
        count++;
        brokenCount += broken ? 1 : 0;
    }

    static void fail(String what) {
        if (!broken) {
            System.out.println("BROKEN " + open);
        }
        broken = true;
        System.out.println("  " + what);
    }

    /** Two like objects, of which one is called and refuses, show the same afterwards. */
    static void changesNothing(Supplier<Run> build, long refusal, String... calls) {
        for (String call : calls) {
            Run called = build.get();
            Run uncalled = build.get();
            called.due(refusal, call);
            String got = called.seen();
            String want = uncalled.seen();
            if (!got.equals(want)) {
                fail(call + " was refused, but changed " + firstDifference(got, want));
            }
        }
    }

    private static String firstDifference(String got, String want) {
        String[] gotLines = got.split("\n");
        String[] wantLines = want.split("\n");
        for (int i = 0; i < Math.min(gotLines.length, wantLines.length); i++) {
            if (!gotLines[i].equals(wantLines[i])) {
                return wantLines[i] + " to " + gotLines[i];
            }
        }
        return "how much can be seen";
    }

    static int brokenCount() {
        return brokenCount;
    }

    static int count() {
        return count;
    }
}
