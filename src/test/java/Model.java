import java.util.ArrayDeque;
import java.util.ArrayList;
import java.util.Arrays;
import java.util.Deque;
import java.util.List;

/** The document told a second time, in another way and without care for speed, to compare with. */
public final class Model {
    static class F implements Cloneable {
        int kind, riser, place, wall, open = 4, warm = 200, used, real, gift, drift = 100;
        boolean held, window;

        int wallLeaks() { return wall; }
        int takes() { return open; }
        final int leaks() { return wallLeaks() + (window ? 100 : 0); }
        boolean near(F f) { return f.riser == riser && (f.place == place + 1 || f.place == place - 1); }

        F twin() {
            try {
                return (F) clone();
            } catch (CloneNotSupportedException e) {
                throw new IllegalStateException(e);
            }
        }
    }
    static class Roof extends F { int wallLeaks() { return super.wallLeaks() + super.wallLeaks() / 2; } }
    static class Cellar extends F { int wallLeaks() { return super.wallLeaks() - super.wallLeaks() / 3 + 1; } }
    static class Empty extends F { int takes() { return super.takes() < 2 ? super.takes() : 2; } }
    static class Corner extends Roof { int wallLeaks() { return super.wallLeaks() + 20; } }
    static class Let extends Empty { int takes() { return super.takes() + 1; } }

    private static final List<Class<?>> KINDS =
        List.of(F.class, Roof.class, Cellar.class, Empty.class, Corner.class, Let.class);

    static final class House {
        int now, outside = 50, pump = 100, boiler = 600;
        List<F> flats = new ArrayList<>();
        String rule;
        List<int[]> complaints = new ArrayList<>();

        House twin() {
            House h = new House();
            h.now = now;
            h.outside = outside;
            h.pump = pump;
            h.boiler = boiler;
            for (F f : flats) h.flats.add(f.twin());
            h.rule = rule;
            h.complaints.addAll(complaints);
            return h;
        }

        F at(int riser, int place) {
            for (F f : flats) if (f.riser == riser && f.place == place) return f;
            return null;
        }

        int weight(F f) {
            int w = f.takes() * 10;
            for (F g : flats) if (g.riser == f.riser && g.place > f.place) w -= 2;
            return w < 0 ? 0 : w;
        }

        int weights() {
            int all = 0;
            for (F g : flats) all += weight(g);
            return all;
        }

        int flow(F f) { return flow(f, weights()); }

        int flow(F f, int all) { return all == 0 ? 0 : pump * weight(f) / all; }

        House hours(int n) {
            for (int k = 0; k < n; k++) hour();
            return this;
        }

        void hour() {
            House was = twin();
            int all = was.weights();
            for (int i = 0; i < flats.size(); i++) {
                F f = flats.get(i), b = was.flats.get(i);
                int in = was.flow(b, all) * (boiler > b.warm ? boiler - b.warm : 0) / 1000;
                int out = b.leaks() * (b.warm - outside) / 1000;
                int through = 0;
                F[] round = {was.at(b.riser, b.place + 1), was.at(b.riser, b.place - 1),
                    was.at(b.riser - 1, b.place), was.at(b.riser + 1, b.place)};
                for (F g : round) if (g != null) through += (g.warm - b.warm) / 20;
                f.warm = b.warm + in - out + through;
                f.used += in * f.drift / 100;
                f.real += in;
                f.gift += through;
            }
            now++;
        }

        int real() { return flats.stream().mapToInt(f -> f.real).sum(); }
        int used() { return flats.stream().mapToInt(f -> f.used).sum(); }
    }

    private House house = new House();
    private House kept;
    private String tape = "";
    private final long[][] sheets = new long[4][];
    private final int[] bits = new int[4];
    private final int[] found = new int[7];

    private int find(int code) {
        found[-1000000001 - code]++;
        return code;
    }
    private boolean no(int flat) { return flat < 0 || flat >= house.flats.size(); }
    private static boolean off(long v, long a, long b) { return v < a || v > b; }
    private F get(int flat) { return house.flats.get(flat); }
    private static int one(boolean b) { return b ? 1 : 0; }

    public int flat(int kind, int riser, int wall) {
        if (off(kind, 0, 5) || off(riser, 0, 3) || off(wall, 1, 99)) return find(Check.BEYOND);
        if (house.flats.size() == 12) return find(Check.FULL);
        F f = kind == 0 ? new F() : kind == 1 ? new Roof() : kind == 2 ? new Cellar()
            : kind == 3 ? new Empty() : kind == 4 ? new Corner() : new Let();
        f.kind = kind;
        f.riser = riser;
        f.wall = wall;
        while (house.at(riser, f.place) != null) f.place++;
        house.flats.add(f);
        return house.flats.size() - 1;
    }

    public int of(int flat, int what) {
        if (no(flat) || off(what, 0, 14)) return find(Check.BEYOND);
        F f = get(flat);
        return new int[] {f.kind, f.riser, f.place, f.wall, f.open, one(f.held), one(f.window), f.warm, f.leaks(),
            f.takes(), house.flow(f), f.used, f.real, f.gift, f.drift}[what];
    }

    public int as(int flat, int kind) {
        if (no(flat) || off(kind, 0, 5)) return find(Check.BEYOND);
        if (!KINDS.get(kind).isInstance(get(flat))) return find(Check.KIND);
        return get(flat).leaks();
    }

    public int set(int what, int v) {
        if (off(what, 0, 2)) return find(Check.BEYOND);
        int was;
        if (what == 0) {
            if (off(v, -300, 400)) return find(Check.BEYOND);
            was = house.outside;
            house.outside = v;
        } else if (what == 1) {
            if (off(v, 0, 999)) return find(Check.BEYOND);
            was = house.pump;
            house.pump = v;
        } else {
            if (off(v, 0, 900)) return find(Check.BEYOND);
            was = house.boiler;
            house.boiler = v;
        }
        return was;
    }

    public int turn(int flat, int v) {
        if (no(flat) || off(v, 0, 8)) return find(Check.BEYOND);
        if (get(flat).held) return find(Check.STATE);
        int was = get(flat).open;
        get(flat).open = v;
        return was;
    }

    public int hold(int flat, boolean is) {
        if (no(flat)) return find(Check.BEYOND);
        int was = one(get(flat).held);
        get(flat).held = is;
        return was;
    }

    public int window(int flat, boolean is) {
        if (no(flat)) return find(Check.BEYOND);
        int was = one(get(flat).window);
        get(flat).window = is;
        return was;
    }

    public int drift(int flat, int v) {
        if (no(flat) || off(v, 0, 200)) return find(Check.BEYOND);
        int was = get(flat).drift;
        get(flat).drift = v;
        return was;
    }

    public int hours(int n) {
        if (off(n, 1, 100)) return find(Check.BEYOND);
        if (house.now + n > 2000) return find(Check.STATE);
        return house.hours(n).now;
    }

    public int riser(int riser) {
        if (off(riser, 0, 3)) return find(Check.BEYOND);
        int set = 0;
        for (int i = 0; i < house.flats.size(); i++) if (get(i).riser == riser) set += 1 << i;
        return set;
    }

    public int feed(int bytes, int n) {
        if (off(n, 1, 4)) return find(Check.BEYOND);
        if (tape.length() + n > 80) return find(Check.FULL);
        String all = "" + (char) (bytes >> 24 & 255) + (char) (bytes >> 16 & 255) + (char) (bytes >> 8 & 255)
            + (char) (bytes & 255);
        tape += all.substring(4 - n);
        return tape.length();
    }

    public int wipe() {
        int had = tape.length();
        tape = "";
        return had;
    }

    public int rule() {
        int fault = fault(tape);
        if (fault >= 0) return -1 - fault;
        house.rule = tape;
        tape = "";
        return 0;
    }

    /** By a stack of the signs that are awaited, not by reading E, T, F. */
    static int fault(String text) {
        Deque<Character> awaited = new ArrayDeque<>();
        boolean wantsValue = true;
        int digits = 0;
        for (int i = 0; i < text.length(); i++) {
            char c = text.charAt(i);
            boolean digit = c >= '0' && c <= '9';
            if (wantsValue) {
                if (c == '(' || c == '[') {
                    if (awaited.size() == 4) return i;
                    awaited.push(c == '(' ? ')' : '?');
                    continue;
                }
                if (!digit && "utgwkfrp".indexOf(c) < 0) return i;
                digits = digit ? 1 : 4;
                wantsValue = false;
            } else if (digit && digits < 4) {
                digits++;
            } else if ("+-*/".indexOf(c) >= 0) {
                wantsValue = true;
            } else if (!awaited.isEmpty() && awaited.peek() == c) {
                awaited.pop();
                digits = 4;
                if (c == '?') awaited.push(':');
                if (c == ':') awaited.push(']');
                wantsValue = c == '?' || c == ':';
            } else {
                return i;
            }
        }
        return wantsValue || !awaited.isEmpty() ? text.length() : -1;
    }

    /** The last place of one of the signs outside all brackets, -1 without. */
    private static int last(String text, String signs) {
        int open = 0;
        for (int i = text.length() - 1; i >= 0; i--) {
            char c = text.charAt(i);
            if (c == ')' || c == ']') open++;
            if (c == '(' || c == '[') open--;
            if (open == 0 && signs.indexOf(c) >= 0) return i;
        }
        return -1;
    }

    private int value(String text, int flat) {
        int at = last(text, "+-");
        if (at < 0) at = last(text, "*/");
        if (at >= 0) {
            int a = value(text.substring(0, at), flat);
            int b = value(text.substring(at + 1), flat);
            char c = text.charAt(at);
            return c == '+' ? a + b : c == '-' ? a - b : c == '*' ? a * b : b == 0 ? 0 : (int) ((long) a / b);
        }
        char c = text.charAt(0);
        String inside = text.length() > 1 ? text.substring(1, text.length() - 1) : "";
        if (c == '(') return value(inside, flat);
        if (c == '[') {
            int colon = last(inside, ":");
            int asks = last(inside, "?");
            boolean is = value(inside.substring(0, asks), flat) != 0;
            return value(is ? inside.substring(asks + 1, colon) : inside.substring(colon + 1), flat);
        }
        F f = get(flat);
        switch (c) {
            case 'u': return f.used;
            case 't': return f.real;
            case 'g': return f.gift;
            case 'w': return f.wall;
            case 'k': return f.kind;
            case 'f': return flat;
            case 'r': return f.riser;
            case 'p': return f.place;
            default: return Integer.parseInt(text);
        }
    }

    public int plain() {
        int was = one(house.rule != null);
        house.rule = null;
        return was;
    }

    private int share(int flat, boolean ruled) {
        int v = ruled && house.rule != null ? value(house.rule, flat) : get(flat).used;
        return v < 0 ? 0 : v > 99999 ? 99999 : v;
    }

    public int share(int flat) {
        if (no(flat)) return find(Check.BEYOND);
        return share(flat, true);
    }

    private int[] bills(int price, boolean ruled) {
        int n = house.flats.size();
        long all = 0;
        for (int i = 0; i < n; i++) all += share(i, ruled);
        if (all == 0) return null;
        int[] pays = new int[n];
        long[] rests = new long[n];
        int left = price;
        for (int i = 0; i < n; i++) {
            long part = (long) price * share(i, ruled);
            pays[i] = (int) (part / all);
            rests[i] = part % all;
            left -= pays[i];
        }
        for (; left > 0; left--) {
            int best = 0;
            for (int i = 1; i < n; i++) if (rests[i] > rests[best]) best = i;
            pays[best]++;
            rests[best] = -1;
        }
        return pays;
    }

    public int bill(int price, int flat) {
        if (off(price, 0, 9999) || no(flat)) return find(Check.BEYOND);
        int[] pays = bills(price, true);
        return pays == null ? find(Check.NONE) : pays[flat];
    }

    public int other(int price, int flat) {
        if (off(price, 0, 9999) || no(flat)) return find(Check.BEYOND);
        int[] with = bills(price, true), without = bills(price, false);
        return with == null || without == null ? find(Check.NONE) : without[flat] - with[flat];
    }

    public int meters(int what) {
        if (off(what, 0, 1)) return find(Check.BEYOND);
        if (what == 0) return house.used() - house.real();
        if (house.flats.isEmpty()) return find(Check.NONE);
        int best = 0;
        for (int i = 1; i < house.flats.size(); i++) {
            if (Math.abs(get(i).used - get(i).real) > Math.abs(get(best).used - get(best).real)) best = i;
        }
        return best;
    }

    private static int feels(F f, int bounds) {
        return f.warm < bounds / 1000 ? 1 : f.warm > bounds % 1000 ? 2 : 0;
    }

    private static int evenOf(House h, int bounds) {
        int set = 0;
        for (int i = 0; i < h.flats.size(); i++) if (feels(h.flats.get(i), bounds) == 0) set |= 1 << i;
        return set;
    }

    public int felt(int flat, int bounds) {
        if (no(flat) || off(bounds, 0, 999999)) return find(Check.BEYOND);
        return feels(get(flat), bounds);
    }

    public int even(int bounds, int n) {
        if (off(bounds, 0, 999999) || off(n, 0, 50)) return find(Check.BEYOND);
        return evenOf(house.twin().hours(n), bounds);
    }

    public int foretold(int flat, int n) {
        if (no(flat) || off(n, 0, 100)) return find(Check.BEYOND);
        return house.twin().hours(n).flats.get(flat).warm;
    }

    public int few(int bounds, int n, int what) {
        if (off(bounds, 0, 999999) || off(n, 1, 8) || off(what, 0, 4)) return find(Check.BEYOND);
        for (int visits = 0; visits <= 2; visits++) {
            for (int set = 0; set < 1 << house.flats.size(); set++) {
                if (Integer.bitCount(set) != visits) continue;
                int[] opens = firstGood(bounds, n, set);
                if (opens != null) return new int[] {visits, set, opens[2], opens[0], opens[1]}[what];
            }
        }
        return find(Check.NONE);
    }

    private int[] firstGood(int bounds, int n, int set) {
        F a = set == 0 ? null : get(Integer.numberOfTrailingZeros(set));
        int rest = set & set - 1;
        F b = rest == 0 ? null : get(Integer.numberOfTrailingZeros(rest));
        if (a != null && a.held || b != null && b.held) return null;
        int wasA = a == null ? -1 : a.open, wasB = b == null ? -1 : b.open;
        int[] good = null;
        for (int i = a == null ? 8 : 0; i <= 8 && good == null; i++) {
            for (int k = b == null ? 8 : 0; k <= 8 && good == null; k++) {
                if (a != null && i == wasA || b != null && k == wasB) continue;
                if (a != null) a.open = i;
                if (b != null) b.open = k;
                if (evenOf(house.twin().hours(n), bounds) == (1 << house.flats.size()) - 1) {
                    good = new int[] {a == null ? -1 : i, b == null ? -1 : k,
                        (a == null ? 0 : Math.abs(i - wasA)) + (b == null ? 0 : Math.abs(k - wasB))};
                }
            }
        }
        if (a != null) a.open = wasA;
        if (b != null) b.open = wasB;
        return good;
    }

    public int setback(int boiler, int n) {
        if (off(boiler, 0, 900) || off(n, 1, 50)) return find(Check.BEYOND);
        House changed = house.twin();
        changed.boiler = boiler;
        return house.twin().hours(n).real() - changed.hours(n).real();
    }

    public int works(int flat, int wall, int n) {
        if (no(flat) || off(wall, 1, 99) || off(n, 1, 50)) return find(Check.BEYOND);
        House changed = house.twin();
        changed.flats.get(flat).wall = wall;
        return house.twin().hours(n).real() - changed.hours(n).real();
    }

    public int complain(int flat, int sort) {
        if (no(flat) || off(sort, 1, 2)) return find(Check.BEYOND);
        if (house.complaints.size() == 24) return find(Check.FULL);
        house.complaints.add(new int[] {flat, sort, house.now});
        return house.complaints.size() - 1;
    }

    private boolean joins(int[] a, int[] b) {
        return a[1] == b[1] && Math.abs(a[2] - b[2]) <= 3 && (a[0] == b[0] || get(a[0]).near(get(b[0])));
    }

    private int group(int k) {
        boolean[] in = new boolean[house.complaints.size()];
        in[k] = true;
        for (boolean grows = true; grows;) {
            grows = false;
            for (int i = 0; i < in.length; i++) {
                for (int j = 0; j < in.length; j++) {
                    if (in[i] && !in[j] && joins(house.complaints.get(i), house.complaints.get(j))) {
                        in[j] = true;
                        grows = true;
                    }
                }
            }
        }
        int least = 0;
        while (!in[least]) least++;
        return least;
    }

    public int complaint(int k, int what) {
        if (off(k, 0, house.complaints.size() - 1) || off(what, 0, 3)) return find(Check.BEYOND);
        return what == 3 ? group(k) : house.complaints.get(k)[what];
    }

    public int joined(int a, int b) {
        int most = house.complaints.size() - 1;
        if (off(a, 0, most) || off(b, 0, most)) return find(Check.BEYOND);
        return one(group(a) == group(b));
    }

    public int groups(int sort) {
        if (off(sort, 0, 2)) return find(Check.BEYOND);
        return (int) java.util.stream.IntStream.range(0, house.complaints.size())
            .filter(k -> sort == 0 || house.complaints.get(k)[1] == sort).map(this::group).distinct().count();
    }

    public int sheet(int s, int bits, int n) {
        if (off(s, 0, 3) || !List.of(0, 8, 16, 64).contains(bits)) return find(Check.BEYOND);
        if (n < 0) return find(Check.SIZE);
        if (n > 40) return find(Check.BEYOND);
        this.bits[s] = bits;
        sheets[s] = bits == 0 ? null : new long[n];
        return bits == 0 ? 0 : n;
    }

    public long write(int s, int i, long v) {
        if (off(s, 0, 3)) return find(Check.BEYOND);
        if (sheets[s] == null) return find(Check.MISSING);
        if (off(i, 0, sheets[s].length - 1)) return find(Check.BEYOND);
        long was = sheets[s][i];
        sheets[s][i] = v << 64 - bits[s] >> 64 - bits[s];
        return was;
    }

    public int copy(int s, int from, int t, int to, int n) {
        if (off(s, 0, 3) || off(t, 0, 3)) return find(Check.BEYOND);
        if (sheets[s] == null || sheets[t] == null) return find(Check.MISSING);
        if (bits[s] != bits[t]) return find(Check.KIND);
        if (from < 0 || to < 0 || n < 0 || (long) from + n > sheets[s].length || (long) to + n > sheets[t].length) {
            return find(Check.BEYOND);
        }
        long[] part = Arrays.copyOfRange(sheets[s], from, from + n);
        for (int i = 0; i < n; i++) sheets[t][to + i] = part[i];
        return n;
    }

    public int weather(int s) {
        if (off(s, 0, 3)) return find(Check.BEYOND);
        if (sheets[s] == null) return find(Check.MISSING);
        int began = house.now;
        for (long v : sheets[s]) {
            if (off(v, -300, 400) || house.now == 2000) continue;
            house.outside = (int) v;
            house.hour();
        }
        return house.now - began;
    }

    public int read(int s) {
        if (off(s, 0, 3)) return find(Check.BEYOND);
        if (sheets[s] == null) return find(Check.MISSING);
        int right = 0;
        while (right < sheets[s].length && !no(right) && sheets[s][right] == get(right).warm) right++;
        return right == sheets[s].length ? 0 : right + 1;
    }

    public int image() {
        kept = house.twin();
        return 1;
    }

    public int undo() {
        if (kept == null) return find(Check.NONE);
        house = kept.twin();
        return house.now;
    }

    public int tear() {
        int was = one(kept != null);
        kept = null;
        return was;
    }

    public int count(int what) {
        switch (what) {
            case 0: return house.now;
            case 1: return house.flats.size();
            case 2: return (int) house.flats.stream().filter(f -> f.held).count();
            case 3: return house.complaints.size();
            case 4: return tape.length();
            case 5: return house.used();
            case 6: return house.real();
            case 7: return mostOn();
            case 8: return house.flats.stream().mapToInt(house::flow).sum();
            default: return find(Check.BEYOND);
        }
    }

    private int mostOn() {
        int[] on = new int[4];
        for (F f : house.flats) on[f.riser]++;
        int best = 0;
        for (int i = 0; i < 4; i++) if (on[i] > on[best]) best = i;
        return best;
    }

    public int status(int which) {
        if (off(which, -1, 6)) return find(Check.BEYOND);
        return which < 0 ? Arrays.stream(found).sum() : found[which];
    }
}
