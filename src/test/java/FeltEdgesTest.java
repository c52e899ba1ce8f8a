/** Promises 20 to 25 and section 3's first half, at the edges: bounds, hours from none to the most, few turns. */
public final class FeltEdgesTest {
    public static void main(String[] args) {
        feltAtItsBounds();
        feltOfCrossedBounds();
        feltBelowNone();
        evenOfNoFlats();
        noHours();
        mostHours();
        hoursBeyondTheLast();
        questionsChangeNothing();
        fewOfNoFlats();
        fewOfOneFlat();
        fewTurnsTheLastWay();
        fewOfTheGreatestSet();
        fewInTheOrderOfTurns();
        fewOfHeldOnes();
        fewAtItsBounds();
        setbackAtItsBounds();
        worksAtItsBounds();
        Check.end();
    }

    private static void feltAtItsBounds() {
        Calls.run("WARM 200", "flat 0 0 50; felt 0 200200 = 0; felt 0 199201 = 0; felt 0 200999 = 0; felt 0 200 = 0",
            "felt 0 201201 = 1; felt 0 201999 = 1; felt 0 199199 = 2; felt 0 199 = 2; felt 0 0 = 2; felt 0 999999 = 1",
            "felt 0 999 = 0; even 200200 0 = 1; even 201201 0 = 0; even 199199 0 = 0");
    }

    private static void feltOfCrossedBounds() {
        Calls.run("LEAST above MOST", "flat 0 0 50; felt 0 201200 = 1; felt 0 200199 = 2; felt 0 201199 = 1",
            "even 201200 0 = 0; even 200199 0 = 0; even 201199 0 = 0; few 201200 1 0 = NONE");
    }

    private static void feltBelowNone() {
        Calls.run("colder than any bound", "flat 0 0 99; set 1 0; set 0 -300; hours 100; felt 0 0 = 1; felt 0 999 = 1",
            "even 999 0 = 0");
    }

    private static void evenOfNoFlats() {
        Calls.run("no flats", "even 0 0 = 0; even 999999 50 = 0; felt 0 0 = BEYOND; foretold 0 0 = BEYOND");
        Calls.run("twelve flats", "12x flat 0 0 50; even 200200 0 = 4095; even 201999 0 = 0; even 999 50 = 4095");
    }

    private static void noHours() {
        Calls.run("behind none", "flat 0 0 50; set 2 900; foretold 0 0 = 200; even 200200 0 = 1; foretold 0 1 = 263",
            "even 200262 1 = 0; even 264999 1 = 0; even 263263 1 = 1");
        Calls.run("not for these", "flat 0 0 50; few 0 0 0 = BEYOND; setback 0 0 = BEYOND; works 0 1 0 = BEYOND");
    }

    private static final String MIXED = "flat 2 0 30; flat 0 0 40; flat 1 0 50; flat 5 1 60; flat 4 1 70; turn 0 7;"
        + "turn 3 1; window 4 1; set 0 -70; set 1 300;";

    private static void mostHours() {
        WarmthShared x = Calls.run("asked", MIXED);
        WarmthShared y = Calls.run("gone", MIXED, "hours 50 = 50");
        for (int i = 0; i < 5; i++) {
            Check.due("foretold(" + i + ", 50)", x.foretold(i, 50), y.of(i, 7));
            int just = 1001 * y.of(i, 7);
            Check.due("even behind 50", x.even(just, 50) >> i & 1, 1);
            Check.due("even behind 50, from one more on", x.even(just + 1000, 50) >> i & 1, 0);
        }
        y.hours(50);
        for (int i = 0; i < 5; i++) {
            Check.due("foretold(" + i + ", 100)", x.foretold(i, 100), y.of(i, 7));
        }
    }

    private static void hoursBeyondTheLast() {
        // at rest, so that WARM is the same at both times
        WarmthShared early = Calls.run("early", MIXED, "19x hours 100; set 2 300 = 600; set 0 100");
        WarmthShared late = Calls.run("late", MIXED, "20x hours 100; set 2 300 = 600; set 0 100; hours 1 = STATE");
        String[] questions = {"foretold 0 1", "foretold 1 100", "foretold 4 100", "even 100180 50", "even 150200 1",
            "few 100150 8 0", "few 130400 3 0", "setback 0 50", "setback 900 1", "works 2 99 50", "works 4 1 50"};
        for (int i = 0; i < 5; i++) {
            Check.due("at rest, flat " + i, late.of(i, 7), early.of(i, 7));
        }
        for (String question : questions) {
            Check.due("at 2000: " + question, Calls.ask(late, question), Calls.ask(early, question));
        }
        if (late.foretold(0, 1) == late.of(0, 7) || late.setback(900, 1) == 0 || late.works(4, 1, 50) == 0) {
            Check.fail("hours beyond 2000 should change something here");
        }
        Check.due("NOW stays", late.count(0), 2000);
    }

    private static void questionsChangeNothing() {
        for (int part = 0; part < Probe.PARTS; part++) {
            WarmthShared x = Calls.run("asked", MIXED, "hours 5; image; foretold 0 100; even 150200 50; few 180230 8 2",
                "few 500500 8 0; setback 0 50; setback 900 50; works 0 99 50; works 4 1 50; felt 0 150200");
            WarmthShared y = Calls.run("not asked", MIXED, "hours 5; image");
            if (!Probe.tell(x, part).equals(Probe.tell(y, part))) {
                Check.fail("a question changed something, part " + part);
            }
        }
    }

    private static void fewOfNoFlats() {
        Calls.run("no flats", "few 0 1 0 = 0; few 999999 8 1 = 0; few 999000 8 2 = 0; few 0 8 3 = -1; few 0 8 4 = -1");
    }

    private static void fewOfOneFlat() {
        // 193 and IN: 40 with any turn, 0 shut
        Calls.run("one flat", "flat 0 0 50; few 233233 1 0 = 0; few 233233 1 1 = 0; few 233233 1 2 = 0",
            "few 233233 1 3 = -1; few 233233 1 4 = -1; few 193193 1 0 = 1; few 193193 1 1 = 1; few 193193 1 2 = 4",
            "few 193193 1 3 = 0; few 193193 1 4 = -1; few 194232 1 0 = NONE; few 234999 1 0 = NONE",
            "few 192 1 0 = NONE");
        Calls.run("shut, to 1 first", "flat 0 0 50; turn 0 0; few 233233 1 0 = 1; few 233233 1 3 = 1",
            "few 233233 1 2 = 1");
        Calls.run("wide open, to 0", "flat 0 0 50; turn 0 8; few 193193 1 3 = 0; few 193193 1 2 = 8");
    }

    private static void fewTurnsTheLastWay() {
        // OUT 29 and 7; FLOW of the first 66 at OPEN 8: 171 + 26, and 63 at OPEN 7: 171 + 25
        String two = "flat 0 0 99; window 0 1; flat 0 2 50; hold 1 1;";
        Calls.run("196: OPEN 7", two, "few 196999 1 0 = 1; few 196999 1 3 = 7; few 196999 1 2 = 3");
        Calls.run("197: OPEN 8", two, "few 197999 1 0 = 1; few 197999 1 1 = 1; few 197999 1 3 = 8; few 197999 1 2 = 4",
            "few 197999 1 4 = -1");
        Calls.run("198: NONE", two, "few 198999 1 0 = NONE; few 198999 1 4 = NONE");
    }

    private static void fewOfTheGreatestSet() {
        // only the last two may turn; FLOW is 499 each: 200 and 49
        WarmthShared x = Calls.run("twelve", "10x flat 3 0 1; flat 0 2 99; flat 0 3 99; set 0 200; set 1 999",
            "set 2 300");
        for (int i = 0; i < 10; i++) {
            x.turn(i, 0);
            x.hold(i, true);
        }
        Calls.on(x, "as it is", "few 200249 1 0 = 0; few 200249 1 1 = 0; few 200248 1 0 = 2");
        Calls.on(x, "both shut", "few 200200 1 0 = 2; few 200200 1 1 = 3072; few 200200 1 2 = 8",
            "few 200200 1 3 = 0; few 200200 1 4 = 0");
        Calls.on(x, "one is HELD", "hold 11 1; few 200200 1 0 = NONE; hold 11 0; hold 10 1; few 200200 1 0 = NONE");
    }

    private static void fewInTheOrderOfTurns() {
        // FLOW is by OPEN alone, WARM behind an hour 200 and a tenth of FLOW
        String three = "flat 0 0 1; flat 0 1 1; flat 0 3 1; set 0 200; set 1 900; set 2 300;";
        // the last is HELD at 1: 230 of all needs 1 and 1
        Calls.run("but one way", three, "turn 2 1; hold 2 1; few 230230 1 0 = 2; few 230230 1 1 = 3",
            "few 230230 1 2 = 6; few 230230 1 3 = 1; few 230230 1 4 = 1");
        // the last is HELD at 8: 248 of it needs 7 turns of the others, 205 of these 1 of each: 1 and 6, .., 6 and 1
        String shut = three + "turn 2 8; hold 2 1; turn 0 0; turn 1 0;";
        Calls.run("the lesser FLAT's from 0 on, with each all of the greater one's", shut, "few 205248 1 0 = 2",
            "few 205248 1 1 = 3; few 205248 1 2 = 7; few 205248 1 3 = 1; few 205248 1 4 = 6");
        Calls.run("one visit is tried first", shut, "turn 0 1; few 205248 1 0 = 1; few 205248 1 1 = 2",
            "few 205248 1 2 = 6; few 205248 1 3 = 6; few 205248 1 4 = -1");
        Calls.run("the lesser set first", three, "turn 2 1; hold 2 1; turn 0 8; turn 1 8; few 209281 1 0 = 1",
            "few 209281 1 1 = 1; few 209281 1 3 = 1; hold 0 1; few 209281 1 1 = 2; few 209281 1 3 = 1; hold 1 1",
            "few 209281 1 1 = NONE");
    }

    private static void fewOfHeldOnes() {
        String two = "flat 0 0 50; flat 0 2 50; set 1 200;";
        // 193 and IN: 40 each; 0 and 80
        Calls.run("none HELD", two, "few 193273 1 0 = 0; few 193193 1 0 = 2; few 193193 1 1 = 3; few 193193 1 2 = 8");
        Calls.run("one HELD", two, "hold 0 1; few 193193 1 0 = NONE; few 193233 1 0 = 0; hold 0 0; few 193193 1 0 = 2");
        Calls.run("all HELD", two, "hold 0 1; hold 1 1; few 193233 1 0 = 0; few 193232 1 0 = NONE");
        Calls.run("HELD where it is shut", two, "turn 0 0; hold 0 1; few 193193 1 0 = 1; few 193193 1 1 = 2");
    }

    private static void fewAtItsBounds() {
        String warm = "flat 0 0 50; turn 0 0; set 1 0; set 0 -300;";
        WarmthShared x = Calls.run("colder by the hour", warm);
        int first = x.foretold(0, 1);
        int last = x.foretold(0, 8);
        Calls.on(x, "behind 1 and 8 hours", "few " + (1000 * first + 999) + " 1 0 = 0",
            "few " + (1000 * first + 999) + " 2 0 = NONE", "few " + (1000 * last + 999) + " 8 0 = 0",
            "few " + (1000 * last + 1999) + " 8 0 = NONE", "few " + (1000 * last + 999) + " 9 0 = BEYOND");
    }

    private static void setbackAtItsBounds() {
        Calls.run("no flats", "setback 0 1 = 0; setback 900 50 = 0");
        Calls.run("one flat", "flat 0 0 50; setback 0 1 = 40; setback 200 1 = 40; setback 210 1 = 39",
            "setback 600 50 = 0; setback 900 1 = -30; setback 601 1 = 0; setback 625 1 = -2; count 6 = 0; count 0 = 0");
        Calls.run("BOILER below WARM already", "flat 0 0 50; set 2 100; setback 0 1 = 0; setback 200 1 = 0;"
            + "setback 300 1 = -10");
        WarmthShared x = Calls.run("fifty hours", MIXED);
        WarmthShared as = Calls.run("as it is", MIXED, "hours 50");
        WarmthShared then = Calls.run("then", MIXED, "set 2 123; hours 50");
        Check.due("setback(123, 50)", x.setback(123, 50), as.count(6) - then.count(6));
    }

    private static void worksAtItsBounds() {
        Calls.run("the first hour is the same", "flat 0 0 50; works 0 1 1 = 0; works 0 99 1 = 0; works 0 50 50 = 0");
        // IN 36 behind 233; OUT 14 of WALL 99 makes it 226 and IN 37, OUT 0 of WALL 1 makes it 240 and IN 36
        Calls.run("the second is not", "flat 0 0 50; works 0 99 2 = -1; works 0 1 2 = 0; of 0 3 = 50; of 0 8 = 50");
        for (int[] row : new int[][] {{0, 1}, {0, 99}, {4, 1}, {4, 99}, {2, 70}}) {
            String flats = MIXED.replace(walled(row[0], 30 + 10 * row[0]), walled(row[0], row[1]));
            WarmthShared then = Calls.run("then", flats, "hours 50");
            WarmthShared as = Calls.run("as it is", MIXED, "hours 50");
            WarmthShared x = Calls.run("asked", MIXED);
            Check.due("works(" + row[0] + ", " + row[1] + ", 50)", x.works(row[0], row[1], 50),
                as.count(6) - then.count(6));
        }
    }

    private static String walled(int flat, int wall) {
        String[] flats = {"flat 2 0 ", "flat 0 0 ", "flat 1 0 ", "flat 5 1 ", "flat 4 1 "};
        return flats[flat] + wall + ";";
    }
}
