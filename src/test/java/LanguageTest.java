import java.nio.file.Files;
import java.nio.file.Path;
import java.util.List;
import java.util.regex.Matcher;
import java.util.regex.Pattern;

/** Looks in the source for what LANGUAGE.md rules out, as far as words tell it. */
public final class LanguageTest {
    private static final String FACE = "note|clear|bind|ratio|empty|weight|sets|set|sounds|reading|harsh|choose|chosen|solve"
        + "|variable|loose|place|move|energy|near|text|pure|pump";
    private static int wrong = 0;

    public static void main(String[] args) throws Exception {
        String source = Files.readString(Path.of("src/main/java/JustMoves.java"));
        String code = source.replaceAll("(?s)/\\*.*?\\*/", "").replaceAll("//[^\n]*", "");
        forbid(code, "rule 6", "\\b(throw|throws|try|catch|finally|synchronized|assert)\\b");
        forbid(code, "rule 2", "->|::");
        forbid(code, "rule 4", "Exact\\b");
        forbid(code, "rule 13", "\\b(Random|currentTimeMillis|nanoTime|Thread|File|getenv|getProperty)\\b");
        forbid(code, "rule 5", "\\bstatic\\s*\\{");
        forbid(code, "rule 5", "(?m)^\\s*(private|public)? ?static (?!final|boolean \\w+\\(|int \\w+\\(|long \\w+\\()[^(]*$");
        forbid(code, "rule 1", "\\bprotected\\b|^package\\b");
        forbid(code, "rule 4", "(?m)^import (?!java\\.util\\.Arrays;)");
        forbid(code, "rule 3", "\\b(double|float|Object|BigInteger|Math\\.(floor|round|sqrt|pow))\\b");
        forbid(code, "rule 1", "(?m)^        \\s*(?:private |static |final )*(?:void|int|long|boolean) (?:" + FACE + ")\\(");
        dueOnce(code);
        dueRowsInConstructors(code);
        dueShortMethods(code);
        System.out.println(wrong == 0 ? "the language is kept to" : wrong + " places are outside the language");
        if (wrong != 0) {
            System.exit(1);
        }
    }

    private static void forbid(String code, String rule, String pattern) {
        Matcher m = Pattern.compile(pattern).matcher(code);
        while (m.find()) {
            wrong++;
            System.out.println(rule + ": " + m.group().strip());
        }
    }

    private static void dueOnce(String code) {
        for (String name : FACE.split("\\|")) {
            Matcher m = Pattern.compile("(?m)^    public (int|long) " + name + "\\(").matcher(code);
            if (!m.find()) {
                wrong++;
                System.out.println("rule 1: there is no " + name);
            }
        }
        Matcher m = Pattern.compile("(?m)^ +public (?!static final int BAD|JustMoves\\(\\))\\w+ (\\w+)").matcher(code);
        while (m.find()) {
            if (!m.group(1).matches(FACE)) {
                wrong++;
                System.out.println("rule 1: " + m.group(1) + " is public");
            }
        }
    }

    /** Objects come about in fields and constructors alone, so that no call makes one. */
    private static void dueRowsInConstructors(String code) {
        List<String> constructors = List.of("readings = new Readings(", "choice = new Choice(", "chains = new Chains(",
            "squares = new Squares(", "solver = new Solver(", "values[i] = new Whole()");
        for (String line : code.split("\n")) {
            boolean isField = line.strip().matches("(private )?final .* = new .*;");
            boolean isInConstructor = constructors.stream().anyMatch(line.strip()::startsWith);
            if (line.contains("new ") && !isField && !isInConstructor) {
                wrong++;
                System.out.println("rule 12: " + line.strip());
            }
        }
    }

    private static void dueShortMethods(String code) {
        int start = 0;
        String[] lines = code.split("\n");
        for (int i = 0; i < lines.length; i++) {
            if (lines[i].matches("    (    )?[^ }].*\\) \\{")) {
                start = i;
            }
            if (lines[i].matches("    (    )?}") && start > 0) {
                if (i - start > 60) {
                    wrong++;
                    System.out.println("rule 11: a method is too long: " + lines[start].strip());
                }
                start = 0;
            }
        }
    }
}
