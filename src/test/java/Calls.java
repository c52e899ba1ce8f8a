import java.lang.reflect.InvocationTargetException;
import java.lang.reflect.Method;
import java.lang.reflect.Modifier;
import java.util.HashMap;
import java.util.List;
import java.util.Map;

/**
 * Calls told as texts: "of 0 7 = 200" is a name, its arguments and the answer that is due (it may be left out);
 * several stand in one text with ';' between them, "19x hours 100" is one call 19 times, and "tape u+3" feeds THE
 * TAPE a text byte by byte. They go to a WarmthShared or to the Model, which have the same face.
 */
final class Calls {
    private static final List<String> FINDINGS =
        List.of("BEYOND", "FULL", "KIND", "NONE", "STATE", "MISSING", "SIZE");
    private static final Map<Class<?>, Map<String, Method>> FACES = new HashMap<>();

    private Calls() {
    }

    /** A new object on which the rows have been called. */
    static WarmthShared run(String why, String... rows) {
        WarmthShared x = new WarmthShared();
        on(x, why, rows);
        return x;
    }

    static void on(Object x, String why, String... rows) {
        for (String row : rows) {
            for (String one : row.split(";")) {
                if (!one.isBlank()) {
                    times(x, why, one.trim());
                }
            }
        }
    }

    private static void times(Object x, String why, String one) {
        int n = 1;
        String call = one;
        if (one.matches("\\d+x .*")) {
            n = Integer.parseInt(one.substring(0, one.indexOf('x')));
            call = one.substring(one.indexOf(' ') + 1);
        }
        String[] sides = call.split(" = ");
        for (int i = 0; i < n; i++) {
            long got = ask(x, sides[0]);
            if (sides.length > 1) {
                Check.due(why + ": " + sides[0], got, number(sides[1]));
            }
        }
    }

    /** What one call answers. */
    static long ask(Object x, String call) {
        String[] words = call.trim().split(" +");
        if (words[0].equals("tape")) {
            long answer = 0;
            for (int i = 0; i < words[1].length(); i++) {
                answer = ask(x, "feed", words[1].charAt(i), 1);
            }
            return answer;
        }
        long[] args = new long[words.length - 1];
        for (int i = 0; i < args.length; i++) {
            args[i] = number(words[i + 1]);
        }
        return ask(x, words[0], args);
    }

    static long ask(Object x, String name, long... args) {
        Method m = face(x.getClass()).get(name);
        if (m == null || m.getParameterCount() != args.length) {
            throw new IllegalArgumentException("no such call: " + name + " with " + args.length);
        }
        Object[] given = new Object[args.length];
        for (int i = 0; i < args.length; i++) {
            Class<?> type = m.getParameterTypes()[i];
            given[i] = type == int.class ? (Object) (int) args[i]
                : type == boolean.class ? (Object) (args[i] != 0) : (Object) args[i];
        }
        try {
            return ((Number) m.invoke(x, given)).longValue();
        } catch (InvocationTargetException | IllegalAccessException e) {
            throw new IllegalStateException(name + " failed", e);
        }
    }

    static long number(String word) {
        int finding = FINDINGS.indexOf(word);
        if (finding >= 0) {
            return Check.BEYOND - finding;
        }
        return word.equals("MIN") ? Integer.MIN_VALUE : word.equals("MAX") ? Integer.MAX_VALUE : Long.parseLong(word);
    }

    private static Map<String, Method> face(Class<?> c) {
        return FACES.computeIfAbsent(c, of -> {
            Map<String, Method> all = new HashMap<>();
            for (Method m : of.getDeclaredMethods()) {
                if (Modifier.isPublic(m.getModifiers())) {
                    all.put(m.getName(), m);
                }
            }
            return all;
        });
    }
}
