import java.io.IOException;
import java.nio.file.Files;
import java.nio.file.Path;
import java.util.ArrayList;
import java.util.Arrays;
import java.util.LinkedHashMap;
import java.util.List;
import java.util.Map;

/**
 * Checks that stand each under a promise and a sentence of the document. A test ends well if all checks
 * hold, and if each sentence of its sections is named with at least one check behind it.
 */
abstract class Sentences {
    static final int BAD = -1, FULL = -2, FINDING = -3, STATE = -4, NONE = -9;
    static final int NOTHING = 1, BEYOND = 2, UNLIKE = 3, NOUGHT = 4, SIZE = 5;
    static final int LEAST = Integer.MIN_VALUE, MOST = Integer.MAX_VALUE;
    /** 3 columns, 3 lines, the mountain on cell 4, where a farmer has his house. */
    static final String LONE = "l3311f111";
    /** 5 columns, 4 lines, the mountain on cell 12; one of each kind. */
    static final String VALLEY = "l5422 f005 v123 w434 g319 m132 h216";
    private static final Path DOCUMENT = Path.of("../shared/DOC.md");
    private static final int FINDING_AT = 4;

    private static final Map<String, Integer> CHECKS = new LinkedHashMap<>();
    private static String now = "";
    private static int wrong = 0;

    /** The checks behind this are of a sentence of a promise (0: of the document's terms). */
    static void says(int promise, String sentence) {
        now = promise == 0 ? "Terms: " + sentence : "Promise " + promise + ": " + sentence;
        CHECKS.putIfAbsent(now, 0);
    }

    static void check(String what, long got, long want) {
        CHECKS.merge(now, 1, Integer::sum);
        if (got != want) {
            wrong++;
            System.out.println("'" + now + "': " + what + " answered " + got + ", due is " + want);
        }
    }

    static String told(String name, int... arguments) {
        String inside = Arrays.toString(arguments);
        return name + "(" + inside.substring(1, inside.length() - 1) + ")";
    }

    static void due(Hill x, long want, String name, int... arguments) {
        check(told(name, arguments), x.call(name, arguments), want);
    }

    /** It answers so, and asked() tells so behind it. */
    static void tells(Hill x, long want, long asked, String name, int... arguments) {
        due(x, want, name, arguments);
        check("asked() behind " + told(name, arguments), x.call("asked"), asked);
    }

    static void terms(Hill x, long upper, long lower, String name, int... arguments) {
        due(x, 1, name, arguments);
        check("upper() behind " + told(name, arguments), x.call("upper"), upper);
        check("lower() behind " + told(name, arguments), x.call("lower"), lower);
    }

    /** It answers BAD, FULL, STATE or NONE, and all is as it was. */
    static void refused(Hill x, int want, String name, int... arguments) {
        long[] before = x.state();
        due(x, want, name, arguments);
        alike(name, arguments, x.state(), before);
    }

    /** It answers FINDING, which is told and counted; all else is as it was. */
    static void finds(Hill x, int finding, String name, int... arguments) {
        long[] before = x.state();
        due(x, FINDING, name, arguments);
        before[FINDING_AT] = finding;
        before[FINDING_AT + finding]++;
        alike(name, arguments, x.state(), before);
    }

    private static void alike(String name, int[] arguments, long[] got, long[] want) {
        String[] parts = {"digest()", "asked()", "upper()", "lower()", "finding()", "findings(1)", "findings(2)",
            "findings(3)", "findings(4)", "findings(5)"};
        for (int p = 0; p < parts.length; p++) {
            check(parts[p] + " behind " + told(name, arguments), got[p], want[p]);
        }
    }

    /** A ROW has these ints and no more. */
    static void holds(Hill x, int r, int... values) {
        for (int i = 0; i < values.length; i++) {
            tells(x, 1, values[i], "at", r, i);
        }
        due(x, FINDING, "at", r, values.length);
    }

    /** Looks at whether each sentence of the document's promises is named, and ends the test. */
    static void end(int first, int last) throws IOException {
        if (Files.isReadable(DOCUMENT)) {
            allNamed(first, last);
        } else {
            System.out.println("no " + DOCUMENT + " here: whether each sentence is named is not looked at");
        }
        CHECKS.forEach((sentence, checks) -> {
            if (checks == 0) {
                complain("no check behind '" + sentence + "'");
            }
        });
        System.out.println(CHECKS.size() + " sentences, " + wrong + " faults");
        if (wrong != 0) {
            System.exit(1);
        }
    }

    private static void complain(String text) {
        wrong++;
        System.out.println(text);
    }

    private static void allNamed(int first, int last) throws IOException {
        List<String> due = new ArrayList<>();
        for (int promise = first; promise <= last; promise++) {
            for (String sentence : sentencesOf(promise)) {
                due.add((promise == 0 ? "Terms: " : "Promise " + promise + ": ") + sentence);
            }
        }
        for (String sentence : due) {
            if (!CHECKS.containsKey(sentence)) {
                complain("no test names '" + sentence + "'");
            }
        }
        for (String sentence : CHECKS.keySet()) {
            if (!due.contains(sentence)) {
                complain("the document does not say '" + sentence + "'");
            }
        }
    }

    private static List<String> sentencesOf(int promise) throws IOException {
        String text = Files.readString(DOCUMENT);
        if (promise > 0) {
            return split(section(text, "## Promise " + promise + ": ").replaceFirst("^[^\n]*\\s+`[^`]*`: ", ""));
        }
        String life = section(text, "## What it is");
        String all = life.substring(life.indexOf("ANSWERS.") + "ANSWERS.".length()) + section(text, "## Terms");
        List<String> sentences = split(all.replaceAll("```(text)?|={8} \\d ", " "));
        // A heading says nothing to be looked at, unless it says more in brackets.
        sentences.removeIf(s -> s.startsWith("Ahead of the calls") && !s.endsWith(")"));
        return sentences;
    }

    private static String section(String text, String head) {
        int from = text.indexOf(head) + head.length();
        int to = text.indexOf("\n## ", from);
        return text.substring(from, to < 0 ? text.length() : to);
    }

    /** At each full stop and semicolon that stands outside brackets. */
    private static List<String> split(String text) {
        List<String> sentences = new ArrayList<>();
        int open = 0;
        int from = 0;
        for (int i = 0; i < text.length(); i++) {
            char sign = text.charAt(i);
            open += sign == '(' ? 1 : sign == ')' ? -1 : 0;
            boolean stops = sign == ';' || sign == '.' && text.charAt(i - 1) != '.';
            boolean last = i + 1 == text.length();
            if (last || open == 0 && stops && Character.isWhitespace(text.charAt(i + 1))) {
                String sentence = text.substring(from, stops ? i : i + 1).trim().replaceAll("\\s+", " ");
                from = i + 1;
                if (!sentence.isEmpty()) {
                    sentences.add(sentence);
                }
            }
        }
        return sentences;
    }
}
