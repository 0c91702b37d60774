import java.lang.reflect.InvocationTargetException;
import java.lang.reflect.Method;
import java.util.Arrays;

/** A VotedHill that is called by name and counts its calls: the document promises 512 of them alone. */
final class Hill {
    private static final int MOST_CALLS = 512;

    private final VotedHill hill = new VotedHill();
    private int calls = 0;

    static Hill on(String land) {
        Hill made = new Hill();
        made.write(0, land);
        if (made.call("land", 0) < 1) {
            throw new IllegalStateException("no land by " + land);
        }
        return made;
    }

    long call(String name, int... arguments) {
        calls++;
        if (calls > MOST_CALLS) {
            throw new IllegalStateException("this test makes more than " + MOST_CALLS + " calls on one object");
        }
        Class<?>[] types = new Class<?>[arguments.length];
        Arrays.fill(types, int.class);
        try {
            Method method = VotedHill.class.getMethod(name, types);
            Object[] given = Arrays.stream(arguments).boxed().toArray();
            return ((Number) method.invoke(hill, given)).longValue();
        } catch (NoSuchMethodException | IllegalAccessException e) {
            throw new IllegalStateException(e);
        } catch (InvocationTargetException e) {
            throw new IllegalStateException(Sentences.told(name, arguments) + " threw " + e.getCause(), e.getCause());
        }
    }

    void write(int t, String text) {
        call("text", t, text.length());
        for (int i = 0; i < text.length(); i++) {
            if (text.charAt(i) != ' ') {
                call("put", t, i, text.charAt(i));
            }
        }
    }

    void fill(int r, int... values) {
        call("row", r, values.length);
        for (int i = 0; i < values.length; i++) {
            call("lay", r, i, values[i]);
        }
    }

    /** DEEDS until there are so many: a HOUSE goes to and fro. */
    void doUntil(int deeds) {
        call("one", 0, 1);
        int home = (int) call("asked");
        int away = home == 0 ? 1 : 0;
        for (int d = (int) call("count", 3); d < deeds; d++) {
            call("house", 0, away);
            away = home + (home == 0 ? 1 : 0) - away;
        }
    }

    /** All that a refused call must leave as it is, the FINDINGS behind the rest. */
    long[] state() {
        return new long[] {call("digest"), call("asked"), call("upper"), call("lower"), call("finding"),
            call("findings", 1), call("findings", 2), call("findings", 3), call("findings", 4), call("findings", 5)};
    }
}
