import java.lang.reflect.InvocationTargetException;
import java.lang.reflect.Method;
import java.util.Arrays;
import java.util.HashMap;
import java.util.Map;

/**
 * One butler whose calls are made by name, counted and compared. What a butler answers beyond its 512th
 * call is free, so a test that goes there is refused.
 */
final class Run {
    static final long NO = Long.MIN_VALUE;
    static final int NONE = -1, BAD = -2, STATE = -3, FULL = -4, NEVER = -5;
    static final int NOTHING = -11, CAST = -12, PLACE = -13, SIZE = -14;
    static final int LEAST = Integer.MIN_VALUE, GREATEST = Integer.MAX_VALUE;

    private static final int CALL_LIMIT = 512;
    private static final Map<String, Method> FACE = face();
    private static String sentence = "";
    private static int looked = 0;
    private static int wrong = 0;

    private final ButlerRemembers butler = new ButlerRemembers();
    private int made = 0;

    private static Map<String, Method> face() {
        Map<String, Method> face = new HashMap<>();
        for (Method m : ButlerRemembers.class.getMethods()) {
            if (m.getDeclaringClass() == ButlerRemembers.class) {
                face.put(m.getName(), m);
            }
        }
        return face;
    }

    /** The words of the document that the following calls look at. */
    static void says(String words) {
        sentence = words;
    }

    static void note(String what, boolean is) {
        looked++;
        if (!is) {
            wrong++;
            System.out.println("[" + sentence + "] " + what);
        }
    }

    static void end() {
        System.out.println(wrong == 0 ? looked + " answers are as due" : wrong + " answers are not as due");
        if (wrong != 0) {
            System.exit(1);
        }
    }

    static String named(String name, Object... with) {
        String list = Arrays.toString(with);
        return name + "(" + list.substring(1, list.length() - 1) + ")";
    }

    long call(String name, Object... with) {
        made++;
        if (made > CALL_LIMIT) {
            throw new IllegalStateException(named(name, with) + " is beyond the calls of one object");
        }
        try {
            return ((Number) FACE.get(name).invoke(butler, with)).longValue();
        } catch (InvocationTargetException e) {
            throw new IllegalStateException(named(name, with) + " threw", e.getCause());
        } catch (IllegalAccessException e) {
            throw new IllegalStateException(e);
        }
    }

    /** A call with the answer that is due. */
    Run due(long want, String name, Object... with) {
        long got = call(name, with);
        note(named(name, with) + " answered " + got + ", due is " + want, got == want);
        return this;
    }

    /** A call that leads to what is looked at: no refusal is meant. */
    Run does(String name, Object... with) {
        long got = call(name, with);
        if (got < 0) {
            note(named(name, with) + " was refused by " + got, false);
        }
        return this;
    }

    Run times(int n, String name, Object... with) {
        for (int i = 0; i < n; i++) {
            does(name, with);
        }
        return this;
    }

    Run text(String signs) {
        for (int i = 0; i < signs.length(); i++) {
            does("feed", (int) signs.charAt(i));
        }
        return this;
    }

    Run house(String signs) {
        return text(signs).does("house");
    }

    /** Nights go until that day. */
    Run until(int day) {
        long today = call("told", 0);
        for (; today + 60 <= day; today += 60) {
            does("pass", 60);
        }
        return does("pass", (int) (day - today));
    }
}
