import java.io.IOException;
import java.lang.reflect.Method;
import java.lang.reflect.Modifier;
import java.nio.file.Files;
import java.nio.file.Path;
import java.util.Arrays;
import java.util.List;
import java.util.regex.Matcher;
import java.util.regex.Pattern;
import java.util.stream.Stream;

/** What README.md says: its example answers what is written there, and it names every call, class and test. */
public final class ReadmeTest {
    private static final Pattern EXAMPLE = Pattern.compile("(?s)```java\n(.*?)```");
    private static final Pattern TEXT = Pattern.compile("String text = \"([^\"]*)\";");
    private static final Pattern CALL = Pattern.compile("hill\\.(\\w+)\\(([-\\d, ]*)\\); *// (-?\\d+): .*");
    private static int wrong = 0;

    public static void main(String[] args) throws IOException {
        String readme = Files.readString(Path.of("README.md"));
        example(readme);
        names(readme);
        System.out.println(wrong == 0 ? "the readme says what is so" : wrong + " faults of the readme");
        if (wrong != 0) {
            System.exit(1);
        }
    }

    private static void hold(boolean rule, String told) {
        if (!rule) {
            wrong++;
            System.out.println("README.md: " + told);
        }
    }

    private static void example(String readme) {
        Matcher block = EXAMPLE.matcher(readme);
        hold(block.find(), "there is no example");
        String code = wrong == 0 ? block.group(1) : "";
        Hill hill = new Hill();
        Matcher text = TEXT.matcher(code);
        hold(text.find(), "the example has no text");
        if (wrong == 0) {
            hill.write(0, text.group(1));
        }
        int calls = 0;
        for (String line : code.split("\n")) {
            Matcher call = CALL.matcher(line);
            // The text itself is written above, by the same calls.
            boolean writes = line.contains("text") || line.equals("}");
            hold(call.matches() || writes || line.contains("new VotedHill()"), "this is no call with an answer: " + line);
            if (call.matches()) {
                calls++;
                long got = hill.call(call.group(1), numbers(call.group(2)));
                hold(got == Long.parseLong(call.group(3)), "answered " + got + ": " + line);
            }
        }
        hold(calls > 10, "the example has " + calls + " calls");
    }

    private static int[] numbers(String list) {
        return Arrays.stream(list.split(", *")).filter(n -> !n.isBlank()).mapToInt(Integer::parseInt).toArray();
    }

    private static void names(String readme) throws IOException {
        for (Method method : VotedHill.class.getDeclaredMethods()) {
            hold(!Modifier.isPublic(method.getModifiers()) || readme.contains("`" + method.getName() + "`"),
                method.getName() + "() is not named");
        }
        for (Class<?> inside : VotedHill.class.getDeclaredClasses()) {
            hold(readme.contains("| `" + inside.getSimpleName() + "` |"), inside + " is not named");
        }
        try (Stream<Path> files = Files.list(Path.of("src/test/java"))) {
            List<String> tests = files.map(f -> f.getFileName().toString().replace(".java", "")).toList();
            for (String test : tests) {
                hold(readme.contains("| `" + test + "` |"), test + " is not named");
            }
        }
    }
}
