/** Promises 1 to 11 and section 1, at the edges: what is cut, what is 0 at least, what is there at most. */
public final class FlatsEdgesTest {
    public static void main(String[] args) {
        leaksAreCut();
        takesOfFewTurns();
        flowIsCut();
        weightIsNotBelowNone();
        noWeightAtAll();
        inIsCut();
        outIsCut();
        throughIsCut();
        throughIsCutOfEach();
        throughAddsUp();
        neighboursOfTheMiddle();
        wallsOfFlatsThatAreGone();
        meterIsCut();
        meterIsCutHourByHour();
        extremesOfWarm();
        nowAtMost();
        fullHouse();
        whatItWas();
        Check.end();
    }

    private static void leaksAreCut() {
        Calls.run("half of 1, 2, 3, 99", "flat 1 0 1; flat 1 0 2; flat 1 0 3; flat 1 0 99",
            "of 0 8 = 1; of 1 8 = 3; of 2 8 = 4; of 3 8 = 148");
        Calls.run("a third of 1, 2, 3, 4, 99", "flat 2 0 1; flat 2 0 2; flat 2 0 3; flat 2 0 4; flat 2 0 99",
            "of 0 8 = 2; of 1 8 = 3; of 2 8 = 3; of 3 8 = 4; of 4 8 = 67");
        Calls.run("a ROOF's and 20", "flat 4 0 1; flat 4 0 3; flat 4 0 99; of 0 8 = 21; of 1 8 = 24; of 2 8 = 168");
        Calls.run("the window's 100 are not halved", "flat 4 0 99; window 0 1; of 0 8 = 268; as 0 1 = 268",
            "window 0 0; of 0 8 = 168");
    }

    private static void takesOfFewTurns() {
        Calls.run("EMPTY: the lesser of OPEN and 2", "flat 3 0 50; turn 0 0; of 0 9 = 0; turn 0 1; of 0 9 = 1",
            "turn 0 2; of 0 9 = 2; turn 0 3; of 0 9 = 2; turn 0 8; of 0 9 = 2");
        Calls.run("LET: one more", "flat 5 0 50; turn 0 0; of 0 9 = 1; turn 0 1; of 0 9 = 2",
            "turn 0 2; of 0 9 = 3; turn 0 3; of 0 9 = 3; turn 0 8; of 0 9 = 3");
        Calls.run("CORNER: all of OPEN", "flat 4 0 50; turn 0 0; of 0 9 = 0; turn 0 8; of 0 9 = 8");
    }

    private static void flowIsCut() {
        Calls.run("thirds", "flat 0 0 50; flat 0 1 50; flat 0 2 50; of 0 10 = 33; of 2 10 = 33; count 8 = 99",
            "set 1 2; of 0 10 = 0; count 8 = 0; set 1 3; of 0 10 = 1; set 1 5; of 0 10 = 1; set 1 6; of 0 10 = 2");
        Calls.run("all the PUMP has", "flat 0 0 50; set 1 999; of 0 10 = 999; set 1 0; of 0 10 = 0");
    }

    private static void weightIsNotBelowNone() {
        // 11 down to 0 FLATS are above each; at OPEN 1 WEIGHTS are -12 (0), .., -2 (0), 0, 2, 4, 6, 8, 10: 30 in all
        WarmthShared x = Calls.run("twelve on a riser", "12x flat 0 2 50; set 1 30");
        for (int i = 0; i < 12; i++) {
            x.turn(i, 1);
        }
        int[] due = {0, 0, 0, 0, 0, 0, 0, 2, 4, 6, 8, 10};
        for (int i = 0; i < 12; i++) {
            Check.due("FLOW of flat " + i, x.of(i, 10), due[i]);
            Check.due("place of flat " + i, x.of(i, 2), i);
        }
        // at OPEN 2 the lowest has 20 less 22, the next 20 less 20, the third 20 less 18; the fourth is at OPEN 1 still
        Calls.on(x, "OPEN 2 below", "turn 0 2; turn 1 2; turn 2 2; set 1 32; of 0 10 = 0; of 1 10 = 0; of 2 10 = 2");
        Calls.on(x, "OPEN 3 below", "turn 0 3; set 1 40; of 0 10 = 8; of 1 10 = 0; of 3 10 = 0");
    }

    private static void noWeightAtAll() {
        Calls.run("all shut", "flat 0 0 50; flat 3 1 50; flat 4 2 50; turn 0 0; turn 1 0; turn 2 0",
            "of 0 10 = 0; of 1 10 = 0; of 2 10 = 0; count 8 = 0; hours 1; count 6 = 0; of 0 7 = 193");
        Calls.run("a LET one takes even shut", "flat 0 0 50; flat 5 1 50; turn 0 0; turn 1 0; of 0 10 = 0",
            "of 1 10 = 100");
        Calls.run("no flats", "count 8 = 0; hours 100 = 100; hours 1 = 101; count 6 = 0");
    }

    private static void inIsCut() {
        String still = "flat 0 0 1; set 0 200;";
        Calls.run("333 times 3 by 1000", still, "set 1 333; set 2 203; hours 1; of 0 12 = 0; of 0 7 = 200");
        Calls.run("500 times 2 by 1000", still, "set 1 500; set 2 202; hours 1; of 0 12 = 1; of 0 7 = 201");
        Calls.run("143 times 7 by 1000", still, "set 1 143; set 2 207; hours 1; of 0 12 = 1; of 0 7 = 201");
        Calls.run("999 times 2 by 1000", still, "set 1 999; set 2 202; hours 1; of 0 12 = 1; of 0 7 = 201");
        Calls.run("BOILER as warm", still, "set 1 999; set 2 200; hours 1; of 0 12 = 0; of 0 11 = 0; of 0 7 = 200");
        Calls.run("BOILER 2 less", still, "set 1 999; set 2 198; hours 1; of 0 12 = 0; of 0 11 = 0; of 0 7 = 200");
        Calls.run("BOILER at least", still, "set 1 999; set 2 0; hours 1; of 0 12 = 0; of 0 11 = 0; of 0 7 = 200");
        Calls.run("all at most", still, "set 1 999; set 2 900; hours 1; of 0 12 = 699; of 0 7 = 899");
    }

    private static void outIsCut() {
        Calls.run("27 times 37", "flat 0 0 27; set 1 0; set 0 163; hours 1; of 0 7 = 200");
        Calls.run("25 times 40", "flat 0 0 25; set 1 0; set 0 160; hours 1; of 0 7 = 199");
        Calls.run("37 times 54", "flat 0 0 37; set 1 0; set 0 146; hours 1; of 0 7 = 199");
        Calls.run("27 times -37, towards 0", "flat 0 0 27; set 1 0; set 0 237; hours 1; of 0 7 = 200");
        Calls.run("25 times -40", "flat 0 0 25; set 1 0; set 0 240; hours 1; of 0 7 = 201");
        Calls.run("37 times -54, towards 0", "flat 0 0 37; set 1 0; set 0 254; hours 1; of 0 7 = 201");
    }

    /** Two flats, one above the other, the upper one warmer by a difference. */
    private static WarmthShared apart(int by) {
        return Calls.run("apart by " + by, "flat 0 0 1; flat 0 0 1; turn 0 0; set 0 200; set 2 700", "set 1 " + 2 * by,
            "hours 1; set 1 0; of 0 7 = 200; of 1 7 = " + (200 + by));
    }

    private static void throughIsCut() {
        int[][] rows = {{0, 0}, {19, 0}, {20, 1}, {21, 1}, {39, 1}, {40, 2}};
        for (int[] row : rows) {
            WarmthShared x = apart(row[0]);
            Calls.on(x, "20th of " + row[0], "hours 1", "of 0 13 = " + row[1], "of 0 7 = " + (200 + row[1]));
            Calls.on(x, "20th of -" + row[0], "of 1 13 = " + -row[1], "of 1 7 = " + (200 + row[0] - row[1]));
        }
    }

    private static void throughIsCutOfEach() {
        int[][] rows = {{19, 0}, {20, 2}, {39, 2}, {40, 4}};
        for (int[] row : rows) {
            Calls.run("two neighbours by " + row[0], "flat 0 1 1; flat 0 2 1; flat 0 3 1; turn 1 0; set 0 200",
            "set 2 700",
                "set 1 " + 4 * row[0], "hours 1; set 1 0; hours 1", "of 1 13 = " + row[1], "of 0 13 = " + -row[1] / 2);
        }
    }

    private static void throughAddsUp() {
        // 40 apart, then 36, then 34
        Calls.on(apart(40), "hour by hour", "hours 1; of 0 13 = 2; of 1 13 = -2; hours 1; of 0 13 = 3; of 1 13 = -3",
            "hours 1; of 0 13 = 4; of 1 13 = -4; of 0 7 = 204; of 1 7 = 236");
    }

    private static void neighboursOfTheMiddle() {
        // risers 0, 1, 2 with two, three, two flats; flat 3 has one above, one below, one on each side
        boolean[] isNear = {false, true, true, false, true, false, true, false};
        int[] risers = {0, 0, 1, 1, 1, 2, 2, 3};
        for (int warm = 0; warm < risers.length; warm++) {
            WarmthShared x = new WarmthShared();
            for (int i = 0; i < risers.length; i++) {
                x.flat(0, risers[i], 1);
            }
            for (int i = 0; i < risers.length; i++) {
                x.turn(i, i == warm ? 4 : 0);
            }
            Calls.on(x, "flat " + warm + " is warm", "set 0 200; set 2 700; set 1 40; hours 1; set 1 0",
                "of " + warm + " 7 = 220; hours 1");
            if (warm != 3) {
                Check.due("what comes from flat " + warm, x.of(3, 13), isNear[warm] ? 1 : 0);
            } else {
                Calls.on(x, "to four", "of 3 13 = -4; of 1 13 = 1; of 2 13 = 1; of 4 13 = 1; of 6 13 = 1; of 0 13 = 0",
                    "of 5 13 = 0; of 7 13 = 0");
            }
        }
    }

    private static void wallsOfFlatsThatAreGone() {
        Calls.run("two above one another, then two apart", "image; flat 0 0 1; flat 0 0 1; hours 1; undo = 0",
            "flat 0 0 1; flat 0 3 1; turn 0 0; set 0 200; set 2 700; set 1 40; hours 2; of 0 13 = 0; of 0 7 = 200");
    }

    private static void meterIsCut() {
        int[][] rows = {{0, 0}, {1, 0}, {99, 0}, {100, 1}, {101, 1}, {199, 1}, {200, 2}};
        for (int[] row : rows) {
            Calls.run("IN 1 by a drift", "flat 0 0 1; set 0 200; set 1 500; set 2 202", "drift 0 " + row[0] + " = 100",
                "hours 1; of 0 12 = 1; of 0 11 = " + row[1], "of 0 14 = " + row[0]);
        }
    }

    private static void meterIsCutHourByHour() {
        Calls.run("half of 1, twice", "flat 0 0 1; set 0 200; set 1 500; set 2 202; drift 0 50; hours 1; set 2 203",
            "hours 1; of 0 12 = 2; of 0 11 = 0; of 0 7 = 202");
        // IN is 3
        Calls.run("half of 3", "flat 0 0 1; set 0 200; set 1 500; set 2 206; drift 0 50; hours 1; of 0 12 = 3",
            "of 0 11 = 1");
    }

    private static void extremesOfWarm() {
        // OUT is 0 from 3 above OUTSIDE on: 268 times 3 by 1000
        Calls.run("as cold as it gets", "flat 4 0 99; window 0 1; set 1 0; set 0 -300; hours 100; of 0 7 = -297");
        Calls.run("as warm as it gets", "flat 0 0 1; set 0 400; set 1 999; set 2 900; hours 1; of 0 7 = 899; hours 100;"
            + "of 0 7 = 899");
    }

    private static void nowAtMost() {
        Calls.run("100 at 1900", "19x hours 100; hours 100 = 2000; count 0 = 2000; hours 1 = STATE; hours 100 = STATE");
        Calls.run("100 at 1901", "19x hours 100; hours 1 = 1901; hours 100 = STATE; count 0 = 1901; hours 99 = 2000");
        Calls.run("nothing goes at 2000", "20x hours 100; flat 0 0 50; hours 1 = STATE; of 0 7 = 200; of 0 12 = 0");
    }

    private static void fullHouse() {
        Calls.run("twelve on one riser", "12x flat 0 3 99; flat 0 3 99 = FULL; flat 0 0 1 = FULL; riser 3 = 4095",
            "riser 0 = 0; count 1 = 12; count 7 = 3; of 11 2 = 11; of 12 0 = BEYOND; hours 100 = 100");
        Calls.run("three on each", "3x flat 0 0 9; 3x flat 0 1 9; 3x flat 0 2 9; flat 0 3 9 = 9; flat 0 3 9 = 10",
            "flat 0 3 9 = 11; flat 0 3 9 = FULL; riser 0 = 7; riser 1 = 56; riser 2 = 448; riser 3 = 3584",
            "of 11 2 = 2");
        Calls.run("no flats", "riser 0 = 0; riser 3 = 0; count 1 = 0; of 0 0 = BEYOND");
    }

    private static void whatItWas() {
        Calls.run("to the same again", "flat 0 0 50; set 0 50 = 50; set 1 100 = 100; set 2 600 = 600; turn 0 4 = 4",
            "drift 0 100 = 100; hold 0 0 = 0; window 0 0 = 0; hold 0 1 = 0; hold 0 1 = 1; window 0 1 = 0",
            "window 0 1 = 1; of 0 5 = 1; of 0 6 = 1; turn 0 4 = STATE; drift 0 0 = 100; drift 0 200 = 0",
            "status -1 = 1");
    }
}
