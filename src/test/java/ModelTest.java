import java.lang.reflect.Method;
import java.util.ArrayList;
import java.util.Arrays;
import java.util.List;
import java.util.Map;
import java.util.Random;
import java.util.TreeMap;

/** Long runs of calls by chance (the same ones each time), every answer compared with the model's. */
public final class ModelTest {
    private static final int RUNS = 60;
    private static final int CALLS = 500;
    private static final long[] EDGES = {Integer.MIN_VALUE, -1000000001, -301, -2, -1, 0, 1, 13, 25, 41, 101, 1000,
        2001, 1000000, Integer.MAX_VALUE};

    private final Random random;
    private final WarmthShared shared = new WarmthShared();
    private final Model model = new Model();
    private final int run;
    private static final Map<String, Integer> SEEN = new TreeMap<>();
    private static boolean isWrong = false;

    private ModelTest(int run) {
        this.run = run;
        this.random = new Random(run);
    }

    public static void main(String[] args) {
        for (int run = 0; run < RUNS && !isWrong; run++) {
            new ModelTest(run).go();
        }
        for (Method m : WarmthShared.class.getDeclaredMethods()) {
            if (java.lang.reflect.Modifier.isPublic(m.getModifiers()) && !SEEN.containsKey(m.getName())) {
                Check.fail(m.getName() + " was answered by findings alone");
            }
        }
        for (String kind : List.of("few visits 0", "few visits 1", "few visits 2", "rule fault", "rule stands")) {
            if (SEEN.getOrDefault(kind, 0) < 20) {
                Check.fail("too few cases of: " + kind + ", " + SEEN.get(kind));
            }
        }
        Check.end();
    }

    private void go() {
        int flats = random.nextInt(13);
        for (int i = 0; i < flats; i++) {
            call("flat", random.nextInt(6), random.nextInt(random.nextInt(4) + 1), 1 + random.nextInt(99));
        }
        // every few costs the model thousands of hours, so a run asks it seldom
        int fews = 4;
        for (int i = flats; i < CALLS && !isWrong; i++) {
            int dice = random.nextInt(60);
            if (dice == 0 && fews > 0) {
                fews--;
                askFew();
            } else if (dice <= 2) {
                tellRule();
            } else if (dice == 3) {
                writeWarm();
            } else {
                callByChance();
            }
        }
        for (int i = 0; i < 12; i++) {
            for (int what = 0; what < 15; what++) {
                call("of", i, what);
            }
        }
        for (int which = -1; which < 7; which++) {
            call("status", which);
        }
    }

    private void callByChance() {
        Method[] all = Model.class.getDeclaredMethods();
        List<Method> face = new ArrayList<>();
        for (Method m : all) {
            if (java.lang.reflect.Modifier.isPublic(m.getModifiers()) && !m.getName().equals("few")) {
                face.add(m);
            }
        }
        face.sort((a, b) -> a.getName().compareTo(b.getName()));
        Method m = face.get(random.nextInt(face.size()));
        long[] args = likely(m.getName());
        for (int i = 0; i < args.length; i++) {
            if (random.nextInt(40) == 0) {
                args[i] = EDGES[random.nextInt(EDGES.length)];
            }
        }
        call(m.getName(), args);
    }

    private long upTo(int n) {
        return random.nextInt(n + 1);
    }

    private long aFlat() {
        return random.nextInt(Math.max(1, model.count(1)) + random.nextInt(20) / 19);
    }

    private long aBound() {
        return 1000 * (100 + upTo(150)) + 150 + upTo(200);
    }

    private long aNumber() {
        return random.nextInt(10) == 0 ? random.nextLong() : upTo(750) - 325;
    }

    private long[] row(long... args) {
        return args;
    }

    private long[] likely(String name) {
        switch (name) {
            case "flat": return row(upTo(5), upTo(3), 1 + upTo(98));
            case "of": return row(aFlat(), upTo(14));
            case "as": return row(aFlat(), upTo(5));
            case "set": return likelySet((int) upTo(2));
            case "turn": return row(aFlat(), upTo(8));
            case "hold":
            case "window": return row(aFlat(), random.nextInt(4) / 3);
            case "drift": return row(aFlat(), upTo(200));
            case "hours": return row(1 + upTo(random.nextInt(10) == 0 ? 99 : 8));
            case "riser": return row(upTo(3));
            case "feed": return row(random.nextInt(), 1 + upTo(3));
            case "share": return row(aFlat());
            case "bill":
            case "other": return row(upTo(9999), aFlat());
            case "meters": return row(upTo(1));
            case "felt": return row(aFlat(), random.nextInt(4) == 0 ? upTo(999999) : aBound());
            case "even": return row(random.nextInt(4) == 0 ? upTo(999999) : aBound(), upTo(50));
            case "foretold": return row(aFlat(), upTo(100));
            case "setback": return row(upTo(900), 1 + upTo(49));
            case "works": return row(aFlat(), 1 + upTo(98), 1 + upTo(49));
            case "complain": return row(aFlat(), 1 + upTo(1));
            case "complaint": return row(upTo(Math.max(0, model.count(3))), upTo(3));
            case "joined": return row(upTo(Math.max(0, model.count(3))), upTo(Math.max(0, model.count(3))));
            case "groups": return row(upTo(2));
            case "sheet": return row(upTo(3), new int[] {0, 8, 16, 16, 64, 64}[random.nextInt(6)], upTo(40));
            case "write": return row(upTo(3), upTo(20), aNumber());
            case "copy": return row(upTo(3), upTo(10), upTo(3), upTo(10), upTo(20));
            case "weather":
            case "read": return row(upTo(3));
            case "count": return row(upTo(8));
            case "status": return row(upTo(7) - 1);
            default: return row();
        }
    }

    private long[] likelySet(int what) {
        return row(what, what == 0 ? upTo(700) - 300 : what == 1 ? upTo(999) : upTo(900));
    }

    /** Bounds about what is foretold, so that no turn, one, or two may help. */
    private void askFew() {
        int n = 1 + (int) upTo(7);
        int least = 999;
        int most = 0;
        for (int i = 0; i < model.count(1); i++) {
            least = Math.min(least, model.foretold(i, n));
            most = Math.max(most, model.foretold(i, n));
        }
        least = Math.max(0, Math.min(999, least + (int) upTo(20) - 8));
        most = Math.max(0, Math.min(999, most + 8 - (int) upTo(20)));
        for (int what = 0; what < 5; what++) {
            long answer = call("few", 1000L * least + most, n, what);
            if (what == 0 && answer >= 0) {
                SEEN.merge("few visits " + answer, 1, Integer::sum);
            }
        }
    }

    private void tellRule() {
        StringBuilder text = new StringBuilder(sum(0));
        for (int spoilt = random.nextInt(4); spoilt > 2; spoilt--) {
            String signs = "utgwkfrp0123456789+-*/()[]?: x";
            text.setCharAt(random.nextInt(text.length()), signs.charAt(random.nextInt(signs.length())));
        }
        call("wipe");
        for (int i = 0; i < text.length(); i++) {
            call("feed", text.charAt(i), 1);
        }
        long answer = call("rule");
        SEEN.merge(answer < 0 ? "rule fault" : "rule stands", 1, Integer::sum);
        for (int i = 0; i < model.count(1); i++) {
            call("share", i);
        }
    }

    private String sum(int depth) {
        StringBuilder text = new StringBuilder(product(depth));
        while (random.nextInt(3) == 0) {
            text.append(random.nextBoolean() ? '+' : '-').append(product(depth));
        }
        return text.toString();
    }

    private String product(int depth) {
        StringBuilder text = new StringBuilder(factor(depth));
        while (random.nextInt(3) == 0) {
            text.append(random.nextBoolean() ? '*' : '/').append(factor(depth));
        }
        return text.toString();
    }

    private String factor(int depth) {
        int dice = random.nextInt(10);
        if (dice == 0 && depth < 5) {
            return "(" + sum(depth + 1) + ")";
        }
        if (dice == 1 && depth < 5) {
            return "[" + sum(depth + 1) + "?" + sum(depth + 1) + ":" + sum(depth + 1) + "]";
        }
        if (dice < 6) {
            return "" + "utgwkfrp".charAt(random.nextInt(8));
        }
        return "" + random.nextInt(random.nextInt(10) == 0 ? 12000 : 300);
    }

    private void writeWarm() {
        long s = upTo(3);
        call("sheet", s, 16, upTo(model.count(1) + 1));
        for (int i = 0; i < model.count(1); i++) {
            call("write", s, i, model.of(i, 7) + random.nextInt(12) / 11);
        }
        call("read", s);
    }

    private long call(String name, long... args) {
        long got = Calls.ask(shared, name, args);
        long want = Calls.ask(model, name, args);
        if (got != want) {
            Check.fail("run " + run + ": " + name + Arrays.toString(args) + " answered " + got + ", the model " + want);
            isWrong = true;
        }
        if (want > -1000000000L) {
            SEEN.merge(name, 1, Integer::sum);
        }
        return want;
    }
}
