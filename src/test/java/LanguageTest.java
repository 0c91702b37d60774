import java.io.IOException;
import java.io.PrintWriter;
import java.io.StringWriter;
import java.lang.management.ManagementFactory;
import java.lang.reflect.Constructor;
import java.lang.reflect.Field;
import java.lang.reflect.Method;
import java.lang.reflect.Modifier;
import java.nio.file.Files;
import java.nio.file.Path;
import java.util.ArrayList;
import java.util.Arrays;
import java.util.HashMap;
import java.util.List;
import java.util.Map;
import java.util.Set;
import java.util.TreeSet;
import java.util.regex.Matcher;
import java.util.regex.Pattern;
import java.util.spi.ToolProvider;

/** The document's face, what of LANGUAGE.md can be seen from outside, and the room that calls take. */
public final class LanguageTest {
    private static final String SOURCE = "src/main/java/VotedHill.java";
    private static final Path DOCUMENT = Path.of("../shared/DOC.md");
    private static final String[] FACE = {"int row(int, int)", "int lay(int, int, int)", "int at(int, int)",
        "int tear(int)", "int copy(int, int, int, int, int)", "int mean(int)", "int text(int, int)",
        "int put(int, int, int)", "int fault(int)", "int land(int)", "int one(int, int)", "int mark(int, int)",
        "int gain(int, int)", "int year()", "int push(int)", "int house(int, int)", "int undo(int)", "int keep(int)",
        "int on(int)", "int votes(int)", "int carries()", "int buy(int)", "int then(int)", "int when(int)",
        "int round()", "int course(int, int)", "int fits(int)", "int next(int)", "int kinds(int, int)",
        "int test(int, int)", "int way(int, int)", "int parts(int, int)", "int duel(int)", "int odds(int, int)",
        "int mid(int)", "int lots(int, int)", "int asked()", "long upper()", "long lower()", "int count(int)",
        "int finding()", "int findings(int)", "long digest()"};
    private static int wrong = 0;

    public static void main(String[] args) throws IOException {
        face();
        faceOfDocument();
        constants();
        classesInside();
        source(Files.readString(Path.of(SOURCE)));
        depth();
        room();
        System.out.println(wrong == 0 ? "face, language and room are as told" : wrong + " rules are broken");
        if (wrong != 0) {
            System.exit(1);
        }
    }

    private static void hold(boolean rule, String told) {
        if (!rule) {
            wrong++;
            System.out.println("broken: " + told);
        }
    }

    private static void face() {
        Set<String> shown = new TreeSet<>();
        for (Method method : VotedHill.class.getDeclaredMethods()) {
            if (!Modifier.isPrivate(method.getModifiers())) {
                shown.add(told(method));
            }
        }
        Set<String> due = new TreeSet<>(Arrays.asList(FACE));
        hold(shown.equals(due), "the face is " + shown);
        hold(Modifier.isPublic(VotedHill.class.getModifiers()) && Modifier.isFinal(VotedHill.class.getModifiers()),
            "the class is public and final");
        Constructor<?>[] made = VotedHill.class.getDeclaredConstructors();
        hold(made.length == 1 && made[0].getParameterCount() == 0 && Modifier.isPublic(made[0].getModifiers()),
            "one public constructor without parameters");
    }

    /** The document's code block names every method above, and no other one. */
    private static void faceOfDocument() throws IOException {
        if (!Files.isReadable(DOCUMENT)) {
            System.out.println("no " + DOCUMENT + " here: its code block is not looked at");
            return;
        }
        String text = Files.readString(DOCUMENT);
        Matcher methods = Pattern.compile("public (int|long) (\\w+)\\(([^)]*)\\);").matcher(text);
        Set<String> written = new TreeSet<>();
        while (methods.find()) {
            String types = methods.group(3).replaceAll("(int) \\w+", "$1");
            written.add(methods.group(1) + " " + methods.group(2) + "(" + types + ")");
        }
        hold(written.equals(new TreeSet<>(Arrays.asList(FACE))), "the document's methods are " + written);
        hold(text.contains("public static final int BAD = " + VotedHill.BAD + ", FULL = " + VotedHill.FULL
            + ", FINDING = " + VotedHill.FINDING + ", STATE = " + VotedHill.STATE + ", SPENT = " + VotedHill.SPENT
            + ", NONE = " + VotedHill.NONE + ";"), "the document's constants have these numbers");
    }

    private static String told(Method method) {
        List<String> types = new ArrayList<>();
        for (Class<?> type : method.getParameterTypes()) {
            types.add(type.getName());
        }
        return method.getReturnType().getName() + " " + method.getName() + "(" + String.join(", ", types) + ")";
    }

    private static void constants() {
        Set<String> shown = new TreeSet<>();
        for (Field field : VotedHill.class.getDeclaredFields()) {
            if (!Modifier.isPrivate(field.getModifiers())) {
                shown.add(field.getName());
            }
        }
        hold(shown.equals(new TreeSet<>(List.of("BAD", "FULL", "FINDING", "STATE", "SPENT", "NONE"))),
            "the constants are " + shown);
        hold(VotedHill.BAD == -1 && VotedHill.FULL == -2 && VotedHill.FINDING == -3 && VotedHill.STATE == -4
            && VotedHill.SPENT == -6 && VotedHill.NONE == -9, "the constants' numbers");
    }

    private static void classesInside() {
        Set<String> names = new TreeSet<>();
        for (String line : FACE) {
            names.add(line.substring(line.indexOf(' ') + 1, line.indexOf('(')));
        }
        Class<?>[] inside = VotedHill.class.getDeclaredClasses();
        hold(inside.length < 12, "at most twelve classes");
        List<Class<?>> all = new ArrayList<>(List.of(inside));
        all.add(VotedHill.class);
        for (Class<?> type : all) {
            int fields = 0;
            for (Field field : type.getDeclaredFields()) {
                boolean constant = Modifier.isStatic(field.getModifiers());
                hold(!constant || Modifier.isFinal(field.getModifiers()), "static and final: " + field);
                fields += constant ? 0 : 1;
            }
            hold(fields <= 20, "at most twenty fields in " + type);
            for (Method method : type.getDeclaredMethods()) {
                hold(type == VotedHill.class && Modifier.isPublic(method.getModifiers())
                    || !names.contains(method.getName()), "no other method is named " + method.getName());
                hold(method.getParameterCount() <= 7, "at most seven parameters: " + method);
            }
        }
        for (Class<?> type : inside) {
            hold(Modifier.isStatic(type.getModifiers()) && !Modifier.isPublic(type.getModifiers())
                && !Modifier.isProtected(type.getModifiers()), "static and not public: " + type);
        }
    }

    private static void source(String text) {
        String code = text.replaceAll("(?s)/\\*.*?\\*/", "").replaceAll("//[^\n]*", "");
        String[] words = {"throw", "throws", "try", "catch", "synchronized", "assert", "import", "package", "new Object",
            "hashCode", "equals", "toString", "instanceof", "var", "record", "Exact"};
        for (String word : words) {
            hold(!Pattern.compile("\\b" + word + "\\b").matcher(code).find(), "no '" + word + "'");
        }
        hold(!code.contains("->") && !code.contains("::"), "no lambda, no method reference");
        hold(!code.matches("(?s).*[^\\x00-\\x7f].*"), "signs 1 to 127 alone");
        Matcher called = Pattern.compile("\\b([A-Z][a-zA-Z]+)\\.([a-z]\\w*)\\(").matcher(code);
        Set<String> library = Set.of("Math.max", "Math.min", "Math.abs", "Integer.bitCount", "Ballot.choiceOf",
            "Land.against", "System.arraycopy");
        while (called.find()) {
            hold(library.contains(called.group(1) + "." + called.group(2)), "calls " + called.group());
        }
        longMethods(code);
    }

    private static void longMethods(String code) {
        Pattern head = Pattern.compile("( +)(?!for|if|while|switch|else|do\\b)[A-Za-z].*\\) \\{");
        String[] lines = code.split("\n");
        int methods = 0;
        for (int l = 0; l < lines.length; l++) {
            Matcher matcher = head.matcher(lines[l]);
            if (matcher.matches()) {
                int end = l;
                while (end < lines.length && !lines[end].equals(matcher.group(1) + "}")) {
                    end++;
                }
                hold(end - l < 60, "a method of " + (end - l + 1) + " lines: " + lines[l]);
                methods++;
            }
        }
        hold(methods > FACE.length, "methods are found in the source");
    }

    /** Calls go at most eight deep, the library's counted; a method that calls itself is refused, too. */
    private static void depth() {
        if (ToolProvider.findFirst("javap").isEmpty()) {
            System.out.println("no javap here: how deep calls go is not looked at");
            return;
        }
        Map<String, Set<String>> calls = new HashMap<>();
        List<Class<?>> all = new ArrayList<>(List.of(VotedHill.class.getDeclaredClasses()));
        all.add(VotedHill.class);
        for (Class<?> type : all) {
            readCalls(type.getName(), calls);
        }
        hold(calls.containsKey("VotedHill.round") && !calls.get("VotedHill.round").isEmpty(), "calls are read");
        for (String method : calls.keySet()) {
            int deep = deepest(method, calls, 1);
            hold(deep <= 8, method + " goes " + deep + " deep");
        }
    }

    private static void readCalls(String type, Map<String, Set<String>> calls) {
        StringWriter shown = new StringWriter();
        PrintWriter out = new PrintWriter(shown);
        ToolProvider.findFirst("javap").orElseThrow()
            .run(out, out, "-c", "-p", "-cp", System.getProperty("java.class.path"), type);
        Pattern head = Pattern.compile("  \\S[^/]*?([\\w$]+)\\([^)]*\\);");
        Pattern call = Pattern.compile("// (?:Interface)?Method (?:([\\w$/]+)\\.)?\"?([\\w<>$]+)\"?:");
        Set<String> callees = new TreeSet<>();
        for (String line : shown.toString().split("\n")) {
            Matcher method = head.matcher(line);
            Matcher called = call.matcher(line);
            if (method.matches()) {
                String name = method.group(1).equals(type) ? "<init>" : method.group(1);
                callees = calls.computeIfAbsent(type + "." + name, key -> new TreeSet<>());
            } else if (called.find()) {
                callees.add((called.group(1) == null ? type : called.group(1)) + "." + called.group(2));
            }
        }
    }

    private static int deepest(String method, Map<String, Set<String>> calls, int open) {
        int deep = open;
        for (String callee : calls.getOrDefault(method, Set.of())) {
            deep = open > 20 ? open : Math.max(deep, deepest(callee, calls, open + 1));
        }
        return deep;
    }

    /** A run has some 7.3 million fields and elements for all that it makes: calls should make nothing. */
    private static void room() {
        com.sun.management.ThreadMXBean bean = (com.sun.management.ThreadMXBean) ManagementFactory.getThreadMXBean();
        dearRun();
        long thread = Thread.currentThread().getId();
        long before = bean.getThreadAllocatedBytes(thread);
        dearRun();
        long made = bean.getThreadAllocatedBytes(thread) - before;
        hold(made < 64 * 1024, "a new object and 512 dear calls take " + made + " bytes");
    }

    private static void dearRun() {
        VotedHill x = new VotedHill();
        String text = "l5522 f005 v123 w434 h319 m132 h216";
        x.text(0, text.length());
        for (int i = 0; i < text.length(); i++) {
            x.put(0, i, text.charAt(i));
        }
        x.land(0);
        x.row(0, 0);
        for (int c = 0; c < 28; c++) {
            x.buy(1);
            x.then(40);
            x.when(0);
            x.round();
            x.course(5, 1);
            x.next(0);
            x.test(0, 0);
            x.parts(0, 24);
            x.duel(6);
            x.odds(0, 5);
            x.mid(5);
            x.undo(0);
            x.lots(20, 7 + c);
            x.keep(0);
            x.on(0);
            x.fault(0);
            x.digest();
        }
    }
}
