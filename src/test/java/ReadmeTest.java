import java.io.IOException;
import java.lang.reflect.Method;
import java.lang.reflect.Modifier;
import java.nio.file.Files;
import java.nio.file.Path;
import java.util.Arrays;
import java.util.regex.Matcher;
import java.util.regex.Pattern;
import java.util.stream.Stream;

/** README.md: its example answers what stands behind it, and it leaves out no call, no refusal, no test. */
public final class ReadmeTest {
    private static final Due T = new Due("ReadmeTest");
    private static final Pattern CALL = Pattern.compile("pot\\.(\\w+)\\(([-\\d, ]*)\\);\\s+// (-?\\d+): .+");
    private static final Pattern FEED = Pattern.compile("for \\(char letter : \"([^\"]*)\"\\.toCharArray\\(\\)\\) pot\\.feed\\(letter\\);");

    public static void main(String[] args) throws IOException {
        String page = Files.readString(Path.of("README.md"));
        example(page);
        namesAll(page);
        T.end();
    }

    private static void example(String page) {
        int from = page.indexOf("```java\n") + 8;
        String[] lines = page.substring(from, page.indexOf("```", from)).strip().split("\n");
        T.isTrue("it begins with a new pot", lines[0].equals("TepidByTreaty pot = new TepidByTreaty();"));
        TepidByTreaty pot = new TepidByTreaty();
        for (int i = 1; i < lines.length; i++) {
            Matcher call = CALL.matcher(lines[i]);
            Matcher feed = FEED.matcher(lines[i]);
            if (call.matches()) {
                int[] given = call.group(2).isEmpty() ? new int[0] : Arrays.stream(call.group(2).split(", ")).mapToInt(Integer::parseInt).toArray();
                T.due(lines[i], Due.ask(pot, call.group(1), given), Long.parseLong(call.group(3)));
            } else if (feed.matches()) {
                Due.feed(pot, feed.group(1));
            } else {
                T.isTrue("a call and its answer: " + lines[i], false);
            }
        }
    }

    private static void namesAll(String page) throws IOException {
        for (Method m : TepidByTreaty.class.getDeclaredMethods()) {
            if (Modifier.isPublic(m.getModifiers())) {
                T.isTrue(m.getName() + " is told", Pattern.compile("`\\*?" + m.getName() + "\\(").matcher(page).find());
            }
        }
        String[] answers = {"-1, `NONE`", "-2, `BAD`", "-3, `STATE`", "-4, `FULL`", "-11", "-12", "-13", "-14", "-1000000", "-4611686018427387904, `NO`"};
        for (String answer : answers) T.isTrue(answer + " is told", page.contains("\n| " + answer + " |"));
        try (Stream<Path> files = Files.list(Path.of("src/test/java"))) {
            files.map(f -> f.getFileName().toString()).filter(f -> f.endsWith("Test.java")).forEach(f ->
                T.isTrue(f + " is told", page.contains("\n| `" + f.replace(".java", "") + "` |")));
        }
    }
}
