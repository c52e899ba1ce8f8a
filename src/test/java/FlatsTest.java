/** Promises 1 to 11: a new object, flats, valves, windows, meters, hours. */
public final class FlatsTest {
    public static void main(String[] args) {
        newObject();
        flat();
        ofANewFlat();
        leaks();
        takes();
        flow();
        as();
        set();
        turnAndHold();
        windowAndDrift();
        hourOfOneFlat();
        hourThroughWalls();
        hourBesideRisers();
        hoursEnd();
        riser();
        Check.end();
    }

    private static void newObject() {
        WarmthShared x = new WarmthShared();
        for (int what = 0; what <= 8; what++) {
            Check.due("1: count(" + what + ")", x.count(what), 0);
        }
        Check.due("1: status(-1)", x.status(-1), 0);
        Check.due("1: set(0, 50)", x.set(0, 50), 50);
        Check.due("1: set(1, 100)", x.set(1, 100), 100);
        Check.due("1: set(2, 600)", x.set(2, 600), 600);
        Check.due("1: plain()", x.plain(), 0);
        Check.due("1: tear()", x.tear(), 0);
        Check.due("1: undo()", x.undo(), Check.NONE);
        for (int s = 0; s < 4; s++) {
            Check.due("1: read(" + s + ")", x.read(s), Check.MISSING);
        }
    }

    private static void flat() {
        WarmthShared x = new WarmthShared();
        Check.due("2: kind -1", x.flat(-1, 0, 1), Check.BEYOND);
        Check.due("2: kind 6", x.flat(6, 0, 1), Check.BEYOND);
        Check.due("2: riser -1", x.flat(0, -1, 1), Check.BEYOND);
        Check.due("2: riser 4", x.flat(0, 4, 1), Check.BEYOND);
        Check.due("2: wall 0", x.flat(0, 0, 0), Check.BEYOND);
        Check.due("2: wall 100", x.flat(0, 0, 100), Check.BEYOND);
        Check.due("2: none came", x.count(1), 0);
        for (int i = 0; i < 12; i++) {
            Check.due("2: flat " + i, x.flat(i % 6, i % 4, i == 0 ? 1 : 99), i);
        }
        Check.due("2: a thirteenth", x.flat(0, 0, 1), Check.FULL);
        Check.due("2: BEYOND is asked ahead of FULL", x.flat(6, 0, 1), Check.BEYOND);
        Check.due("2: twelve", x.count(1), 12);
    }

    private static void ofANewFlat() {
        WarmthShared x = new WarmthShared();
        x.flat(0, 3, 7);
        x.flat(1, 2, 7);
        x.flat(3, 3, 60);
        int[] due = {3, 3, 1, 60, 4, 0, 0, 200, 60, 2, 20, 0, 0, 0, 100};
        for (int what = 0; what < due.length; what++) {
            // weights: 40 - 2, 40, 20; FLOW of the last: 100 * 20 / 98
            Check.due("3: of(2, " + what + ")", x.of(2, what), due[what]);
        }
        Check.due("3: what -1", x.of(0, -1), Check.BEYOND);
        Check.due("3: what 15", x.of(0, 15), Check.BEYOND);
        Check.due("3: flat -1", x.of(-1, 0), Check.BEYOND);
        Check.due("3: flat 3", x.of(3, 0), Check.BEYOND);
        Check.due("3: both", x.of(3, 15), Check.BEYOND);
    }

    private static void leaks() {
        int[] walls = {1, 41, 50, 99};
        int[][] due = {{1, 41, 50, 99}, {1, 61, 75, 148}, {2, 29, 35, 67}, {1, 41, 50, 99}, {21, 81, 95, 168},
            {1, 41, 50, 99}};
        for (int kind = 0; kind < 6; kind++) {
            for (int i = 0; i < walls.length; i++) {
                WarmthShared x = new WarmthShared();
                x.flat(kind, 0, walls[i]);
                Check.due("3: LEAKS of kind " + kind + ", wall " + walls[i], x.of(0, 8), due[kind][i]);
                x.window(0, true);
                Check.due("3: with the window open", x.of(0, 8), due[kind][i] + 100);
            }
        }
    }

    private static void takes() {
        for (int kind = 0; kind < 6; kind++) {
            WarmthShared x = new WarmthShared();
            x.flat(kind, 0, 50);
            for (int open = 0; open <= 8; open++) {
                x.turn(0, open);
                int empty = open < 2 ? open : 2;
                int due = kind == 3 ? empty : kind == 5 ? empty + 1 : open;
                Check.due("3: TAKES of kind " + kind + ", open " + open, x.of(0, 9), due);
            }
        }
    }

    private static void flow() {
        WarmthShared x = new WarmthShared();
        x.flat(0, 0, 50);
        Check.due("3: all FLOW to one", x.of(0, 10), 100);
        x.turn(0, 0);
        Check.due("3: no WEIGHT, no FLOW", x.of(0, 10), 0);
        x.flat(0, 0, 50);
        x.flat(0, 1, 50);
        // weights 0 (not -2), 40, 40
        Check.due("3: no WEIGHT is below 0", x.of(0, 10), 0);
        Check.due("3: half", x.of(1, 10), 50);
        x.turn(0, 1);
        // weights 8, 40, 40
        Check.due("3: what is above takes away", x.of(0, 10), 9);
        Check.due("3: the rest is cut", x.of(1, 10), 45);
        Check.due("38: FLOW of all", x.count(8), 99);
        x.set(1, 999);
        Check.due("3: FLOW goes with the PUMP", x.of(2, 10), 454);
        x.set(1, 0);
        Check.due("3: no PUMP", x.of(2, 10), 0);
    }

    private static void as() {
        boolean[][] isUnder = {{true, false, false, false, false, false}, {true, true, false, false, false, false},
            {true, false, true, false, false, false}, {true, false, false, true, false, false},
            {true, true, false, false, true, false}, {true, false, false, true, false, true}};
        int[] leaks = {40, 60, 28, 40, 80, 40};
        WarmthShared x = new WarmthShared();
        for (int kind = 0; kind < 6; kind++) {
            x.flat(kind, 0, 40);
            for (int above = 0; above < 6; above++) {
                Check.due("4: as(" + kind + ", " + above + ")", x.as(kind, above),
                    isUnder[kind][above] ? leaks[kind] : Check.KIND);
            }
        }
        x.window(4, true);
        Check.due("4: with a window open", x.as(4, 0), 180);
        Check.due("4: kind -1", x.as(0, -1), Check.BEYOND);
        Check.due("4: kind 6", x.as(0, 6), Check.BEYOND);
        Check.due("4: flat 6", x.as(6, 0), Check.BEYOND);
        Check.due("4: flat -1", x.as(-1, 1), Check.BEYOND);
    }

    private static void set() {
        int[] least = {-300, 0, 0};
        int[] most = {400, 999, 900};
        WarmthShared x = new WarmthShared();
        for (int what = 0; what < 3; what++) {
            int was = x.set(what, least[what]);
            Check.due("5: at first", was, what == 0 ? 50 : what == 1 ? 100 : 600);
            Check.due("5: the least", x.set(what, most[what]), least[what]);
            Check.due("5: above", x.set(what, most[what] + 1), Check.BEYOND);
            Check.due("5: below", x.set(what, least[what] - 1), Check.BEYOND);
            Check.due("5: the most", x.set(what, 1), most[what]);
        }
        Check.due("5: what 3", x.set(3, 0), Check.BEYOND);
        Check.due("5: what -1", x.set(-1, 0), Check.BEYOND);
    }

    private static void turnAndHold() {
        WarmthShared x = new WarmthShared();
        x.flat(0, 0, 50);
        Check.due("6: turn(0, 8)", x.turn(0, 8), 4);
        Check.due("6: turn(0, 9)", x.turn(0, 9), Check.BEYOND);
        Check.due("6: turn(0, -1)", x.turn(0, -1), Check.BEYOND);
        Check.due("6: turn(1, 0)", x.turn(1, 0), Check.BEYOND);
        Check.due("6: turn(0, 0)", x.turn(0, 0), 8);
        Check.due("7: hold(0, true)", x.hold(0, true), 0);
        Check.due("7: it is", x.of(0, 5), 1);
        Check.due("7: counted", x.count(2), 1);
        Check.due("6: HELD", x.turn(0, 3), Check.STATE);
        Check.due("6: BEYOND is asked ahead of STATE", x.turn(0, 9), Check.BEYOND);
        Check.due("6: it stays", x.of(0, 4), 0);
        Check.due("7: hold(0, false)", x.hold(0, false), 1);
        Check.due("7: hold(0, false)", x.hold(0, false), 0);
        Check.due("6: turn again", x.turn(0, 3), 0);
        Check.due("7: hold(1, true)", x.hold(1, true), Check.BEYOND);
        Check.due("7: hold(-1, true)", x.hold(-1, true), Check.BEYOND);
    }

    private static void windowAndDrift() {
        WarmthShared x = new WarmthShared();
        x.flat(0, 0, 50);
        Check.due("8: window(0, true)", x.window(0, true), 0);
        Check.due("8: it is", x.of(0, 6), 1);
        Check.due("8: window(0, true)", x.window(0, true), 1);
        Check.due("8: window(0, false)", x.window(0, false), 1);
        Check.due("8: it isn't", x.of(0, 6), 0);
        Check.due("8: window(1, true)", x.window(1, true), Check.BEYOND);
        Check.due("8: window(-1, true)", x.window(-1, true), Check.BEYOND);
        Check.due("9: drift(0, 200)", x.drift(0, 200), 100);
        Check.due("9: drift(0, 201)", x.drift(0, 201), Check.BEYOND);
        Check.due("9: drift(0, -1)", x.drift(0, -1), Check.BEYOND);
        Check.due("9: drift(1, 0)", x.drift(1, 0), Check.BEYOND);
        Check.due("9: drift(0, 0)", x.drift(0, 0), 200);
        Check.due("9: it is", x.of(0, 14), 0);
    }

    private static void dueFlat(String when, WarmthShared x, int flat, int... warmUsedTrueGift) {
        int[] whats = {7, 11, 12, 13};
        for (int i = 0; i < whats.length; i++) {
            String call = "10: " + when + ", of(" + flat + ", " + whats[i] + ")";
            Check.due(call, x.of(flat, whats[i]), warmUsedTrueGift[i]);
        }
    }

    private static void hourOfOneFlat() {
        WarmthShared x = new WarmthShared();
        x.flat(0, 0, 50);
        x.drift(0, 33);
        Check.due("10: hours(1)", x.hours(1), 1);
        // IN 100 * 400 / 1000, OUT 50 * 150 / 1000, METER 40 * 33 / 100
        dueFlat("one hour", x, 0, 233, 13, 40, 0);
        x.set(2, 233);
        x.hours(1);
        dueFlat("water as warm as the flat", x, 0, 224, 13, 40, 0);
        x.set(2, 0);
        x.set(0, 400);
        x.hours(1);
        // IN is not below 0; OUT 50 * -176 / 1000 is cut to -8
        dueFlat("cold water, a hot day", x, 0, 232, 13, 40, 0);
        x.drift(0, 200);
        x.set(2, 900);
        x.set(0, 232);
        x.hours(1);
        // IN 100 * 668 / 1000
        dueFlat("a meter that counts twice", x, 0, 298, 145, 106, 0);
    }

    private static void hourThroughWalls() {
        WarmthShared x = new WarmthShared();
        x.flat(0, 0, 50);
        x.flat(0, 0, 50);
        x.turn(0, 0);
        Check.due("10: hours(1)", x.hours(1), 1);
        dueFlat("nothing goes through like warmth", x, 0, 193, 0, 0, 0);
        dueFlat("all FLOW goes up", x, 1, 233, 40, 40, 0);
        Check.due("10: hours(1)", x.hours(1), 2);
        dueFlat("from above", x, 0, 188, 0, 0, 2);
        dueFlat("to below", x, 1, 258, 76, 76, -2);
        WarmthShared y = new WarmthShared();
        y.flat(0, 0, 50);
        y.flat(0, 0, 50);
        y.turn(0, 0);
        Check.due("10: hours(2) is hours(1) twice", y.hours(2), 2);
        dueFlat("both at once", y, 1, 258, 76, 76, -2);
    }

    /** GIFT of a FLAT with a shut valve behind two hours, another one being warmed. */
    private static int gift(WarmthShared x, int flat) {
        for (int i = 0; i < x.count(1); i++) {
            x.turn(i, i == flat ? 0 : 8);
        }
        x.hours(2);
        return x.of(flat, 13);
    }

    private static void hourBesideRisers() {
        for (int a = 0; a < 4; a++) {
            for (int b = 0; b < 4; b++) {
                WarmthShared x = new WarmthShared();
                x.flat(0, a, 50);
                x.flat(0, b, 50);
                boolean isNear = a - b <= 1 && b - a <= 1;
                int got = gift(x, 0);
                Check.due("10: through the wall of risers " + a + ", " + b, got, isNear ? 2 : 0);
            }
        }
        WarmthShared x = new WarmthShared();
        x.flat(0, 0, 50);
        x.flat(0, 1, 50);
        x.flat(0, 1, 50);
        x.turn(0, 0);
        x.turn(1, 0);
        x.hours(2);
        Check.due("10: another place on the next riser is no neighbour", x.of(0, 13), 0);
        Check.due("10: what is above is one", x.of(1, 13), 2);
    }

    private static void hoursEnd() {
        WarmthShared x = new WarmthShared();
        Check.due("10: hours(0)", x.hours(0), Check.BEYOND);
        Check.due("10: hours(101)", x.hours(101), Check.BEYOND);
        Check.due("10: hours(-1)", x.hours(-1), Check.BEYOND);
        for (int i = 1; i <= 19; i++) {
            Check.due("10: hours(100)", x.hours(100), 100 * i);
        }
        Check.due("10: hours(99)", x.hours(99), 1999);
        Check.due("10: hours(2) at 1999", x.hours(2), Check.STATE);
        Check.due("10: hours(1) at 1999", x.hours(1), 2000);
        Check.due("10: hours(1) at 2000", x.hours(1), Check.STATE);
        Check.due("10: BEYOND is asked ahead of STATE", x.hours(101), Check.BEYOND);
        Check.due("10: NOW stays", x.count(0), 2000);
    }

    private static void riser() {
        WarmthShared x = new WarmthShared();
        int[] risers = {3, 0, 3, 2, 0, 3, 3, 3, 3, 3, 3, 3};
        for (int r : risers) {
            x.flat(0, r, 5);
        }
        Check.due("11: riser(0)", x.riser(0), 0b10010);
        Check.due("11: riser(1)", x.riser(1), 0);
        Check.due("11: riser(2)", x.riser(2), 0b1000);
        Check.due("11: riser(3)", x.riser(3), 0b111111100101);
        Check.due("11: riser(-1)", x.riser(-1), Check.BEYOND);
        Check.due("11: riser(4)", x.riser(4), Check.BEYOND);
        Check.due("3: the highest place", x.of(11, 2), 8);
    }
}
