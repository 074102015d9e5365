import java.lang.reflect.InvocationTargetException;
import java.lang.reflect.Method;
import java.util.HashMap;
import java.util.Map;
import java.util.regex.Matcher;
import java.util.regex.Pattern;

/**
 * Runs of calls told as text: {@code set(0, 0, 39)=0 turn() told(4)=1}. What stands behind a = is due.
 * {@code feed{far 9}} feeds each sign, {@code yard{far 9}} reads them as a YARD too.
 */
final class Runs {
    private static final Pattern CALL =
        Pattern.compile("\\s*(\\w+)(?:\\(([^)]*)\\)|\\{([^}]*)\\})(?:=(-?\\w+))?");
    /** The document promises nothing of an object's later calls. */
    private static final int PROMISED_CALLS = 512;
    private static final Map<String, Long> NAMES = new HashMap<>();
    private static final Map<String, Method> FACE = new HashMap<>();

    static {
        NAMES.put("NONE", -1L);
        NAMES.put("BAD", -2L);
        NAMES.put("STATE", -3L);
        NAMES.put("FULL", -4L);
        NAMES.put("NEVER", -5L);
        NAMES.put("NOTHING", -11L);
        NAMES.put("CAST", -12L);
        NAMES.put("PLACE", -13L);
        NAMES.put("SIZE", -14L);
        NAMES.put("NO", Long.MIN_VALUE);
        NAMES.put("MIN", (long) Integer.MIN_VALUE);
        NAMES.put("MAX", (long) Integer.MAX_VALUE);
        for (Method each : WhileSheLooks.class.getDeclaredMethods()) {
            FACE.put(each.getName(), each);
        }
    }

    private final Due due;
    private WhileSheLooks one;
    private String sentence = "";
    private int calls;

    Runs(Due due) {
        this.due = due;
    }

    /** What comes next looks at this sentence of the document, on a new object. */
    Runs says(String words) {
        sentence = words;
        return anew("");
    }

    /** A new object, and calls of it. */
    Runs anew(String told) {
        one = new WhileSheLooks();
        calls = 0;
        return go(told);
    }

    Runs go(String told) {
        Matcher m = CALL.matcher(told);
        int at = 0;
        while (m.lookingAt()) {
            long got = m.group(3) == null ? call(one, m.group(1), m.group(2))
                : text(m.group(1), m.group(3));
            calls++;
            if (m.group(4) != null) {
                due.is("\"" + sentence + "\": " + m.group().trim(), got, number(m.group(4)));
            }
            at = m.end();
            m.region(at, told.length());
        }
        if (!told.substring(at).isBlank()) {
            throw new IllegalArgumentException("no call: " + told.substring(at));
        }
        if (calls > PROMISED_CALLS) {
            throw new IllegalStateException("more calls than are promised: " + sentence);
        }
        return this;
    }

    private long text(String how, String signs) {
        long count = 0;
        for (char sign : signs.toCharArray()) {
            count = one.feed(sign);
            calls++;
        }
        return how.equals("yard") ? one.yard() : count;
    }

    private static long number(String written) {
        Long named = NAMES.get(written);
        return named != null ? named : Long.parseLong(written);
    }

    /** A call told as "child(0, 8)"; its answer. */
    static long call(WhileSheLooks x, String told) {
        Matcher m = CALL.matcher(told);
        if (!m.matches() || m.group(2) == null) {
            throw new IllegalArgumentException("no call: " + told);
        }
        return call(x, m.group(1), m.group(2));
    }

    private static long call(WhileSheLooks x, String name, String list) {
        Method method = FACE.get(name);
        String[] told = list.isBlank() ? new String[0] : list.split(",");
        Object[] arguments = new Object[told.length];
        for (int i = 0; i < told.length; i++) {
            long n = number(told[i].trim());
            boolean isLong = method.getParameterTypes()[i] == long.class;
            arguments[i] = isLong ? (Object) n : (Object) (int) n;
        }
        try {
            return ((Number) method.invoke(x, arguments)).longValue();
        } catch (IllegalAccessException | InvocationTargetException e) {
            throw new IllegalStateException(name + "(" + list + ") threw", e);
        }
    }
}
