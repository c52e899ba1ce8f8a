import java.lang.reflect.InvocationTargetException;
import java.lang.reflect.Method;
import java.lang.reflect.Modifier;

/** Rule 7: no call throws, for any arguments in any state. */
public final class ExtremesTest {
    private static final int[] INTS = {Integer.MIN_VALUE, -1000000001, -1, 0, 1, 11, 40, Integer.MAX_VALUE};

    public static void main(String[] args) throws IllegalAccessException {
        for (Method m : WarmthShared.class.getDeclaredMethods()) {
            if (Modifier.isPublic(m.getModifiers())) {
                onAll(m, new WarmthShared());
                onAll(m, fullHouse());
            }
        }
        Check.end();
    }

    private static WarmthShared fullHouse() {
        WarmthShared x = new WarmthShared();
        for (int i = 0; i < 12; i++) {
            x.flat(i % 6, i < 9 ? 0 : i % 4, 99);
        }
        x.set(0, -300);
        x.set(1, 999);
        x.set(2, 900);
        for (int i = 0; i < 24; i++) {
            x.complain(i % 12, 1 + i % 2);
        }
        for (int s = 0; s < 4; s++) {
            x.sheet(s, 64, 40);
        }
        Check.rule(x, "[u?(u*u*u/(t-t)):[g?g/g:1]]");
        for (int i = 0; i < 20; i++) {
            x.feed('(', 1);
        }
        x.hours(100);
        x.image();
        return x;
    }

    private static void onAll(Method m, WarmthShared x) throws IllegalAccessException {
        Class<?>[] types = m.getParameterTypes();
        int cases = 1;
        for (int i = 0; i < types.length; i++) {
            cases *= INTS.length;
        }
        for (int k = 0; k < cases; k++) {
            Object[] args = new Object[types.length];
            int rest = k;
            for (int i = 0; i < types.length; i++) {
                args[i] = argument(types[i], INTS[rest % INTS.length]);
                rest /= INTS.length;
            }
            try {
                m.invoke(x, args);
            } catch (InvocationTargetException e) {
                Check.fail(m.getName() + java.util.Arrays.toString(args) + " threw " + e.getCause());
            }
        }
    }

    private static Object argument(Class<?> type, int v) {
        if (type == boolean.class) {
            return v > 0;
        }
        if (type == long.class) {
            return v == Integer.MIN_VALUE ? Long.MIN_VALUE : v == Integer.MAX_VALUE ? Long.MAX_VALUE : (long) v;
        }
        return v;
    }
}
