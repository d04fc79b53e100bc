import java.nio.file.Files;
import java.nio.file.Path;
import java.util.regex.Matcher;
import java.util.regex.Pattern;

/** Makes the calls of README.md's examples; their answers are the ones that stand behind them there. */
public final class ReadmeTest {
    private static final Pattern EXAMPLE = Pattern.compile("(?s)```java\n(.*?)```");
    private static final Pattern CALL = Pattern.compile("x\\.(\\w+)\\(([^)]*)\\);\\s*// (-?\\d+)\\b(.*)");
    private static final Pattern TEXT = Pattern.compile("THE TEXT is (\\S+)");
    private static final String FIRST_LINE = "JustMoves x = new JustMoves();";

    public static void main(String[] args) throws Exception {
        String readme = Files.readString(Path.of("README.md"));
        Matcher example = EXAMPLE.matcher(readme);
        int[] examples = {0};
        while (example.find()) {
            String lines = example.group(1);
            examples[0]++;
            Sentences.test("README.md", "example " + examples[0], () -> follow(lines.split("\n")));
        }
        Sentences.test("README.md", "examples", () -> {
            if (examples[0] == 0) {
                Sentences.fail("there is none");
            }
        });
        Sentences.test("README.md", "every call is told", () -> dueAllCalls(readme));
        System.out.println(Sentences.brokenCount() == 0 ? "all that README.md tells holds" : "README.md is wrong");
        if (Sentences.brokenCount() != 0) {
            System.exit(1);
        }
    }

    private static void follow(String[] lines) {
        Run run = new Run();
        for (String line : lines) {
            Matcher call = CALL.matcher(line.strip());
            if (call.matches()) {
                answer(run, call);
            } else if (!line.isBlank() && !line.strip().equals(FIRST_LINE)) {
                Sentences.fail("neither a call with its answer nor the first line: " + line);
            }
        }
    }

    private static void answer(Run run, Matcher call) {
        String numbers = call.group(2).replace(",", "").replace("true", "on").replace("false", "off");
        run.due(Long.parseLong(call.group(3)), (call.group(1) + " " + numbers).strip());
        Matcher text = TEXT.matcher(call.group(4));
        if (text.find()) {
            run.dueText(text.group(1));
        }
    }

    private static void dueAllCalls(String readme) {
        for (java.lang.reflect.Method method : JustMoves.class.getDeclaredMethods()) {
            boolean isPublic = java.lang.reflect.Modifier.isPublic(method.getModifiers());
            if (isPublic && !readme.contains("`" + method.getName() + "(")) {
                Sentences.fail("nothing is told of " + method.getName());
            }
        }
    }
}
