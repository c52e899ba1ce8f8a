/** Promises 35 to 39 at the edges: nothing kept, kept twice, a full house gone back on, every count, every finding. */
public final class ImagesEdgesTest {
    public static void main(String[] args) {
        nothingKept();
        imageOfNothing();
        latestImage();
        imageStays();
        tornTwice();
        roomAgain();
        rulesKept();
        whatIsNotKept();
        heldAndOpenKept();
        countsOfNothing();
        countsOfMuch();
        countOfRisers();
        statusOfFindings();
        statusIsForEver();
        Check.end();
    }

    private static void nothingKept() {
        Calls.run("a new object", "undo = NONE; tear = 0; undo = NONE; status 3 = 2; status -1 = 2; count 0 = 0");
        Calls.run("nothing changes", "flat 0 0 50; hours 5; undo = NONE; count 0 = 5; count 1 = 1; tear = 0",
            "count 0 = 5");
    }

    private static void imageOfNothing() {
        Calls.run("all as at first", "image = 1; flat 0 0 50; set 0 1; set 1 2; set 2 3; complain 0 1; tape 7; rule",
            "hours 9",
            "undo = 0; count 1 = 0; count 3 = 0; set 0 1 = 50; set 1 1 = 100; set 2 1 = 600; plain = 0; riser 0 = 0",
            "flat 1 0 60 = 0; of 0 2 = 0; of 0 7 = 200; complain 0 1 = 0");
    }

    private static void latestImage() {
        Calls.run("the latest of two", "hours 1; image = 1; hours 1; image = 1; hours 1; undo = 2; undo = 2; tear = 1",
            "undo = NONE; count 0 = 2");
    }

    private static void imageStays() {
        Calls.run("again and again", "flat 0 0 50; hours 3; image; hours 1; undo = 3; hours 2; undo = 3; hours 100",
            "undo = 3; turn 0 8; undo = 3; of 0 4 = 4; flat 0 0 9; undo = 3; count 1 = 1; undo = 3");
    }

    private static void tornTwice() {
        Calls.run("torn", "image; tear = 1; tear = 0; undo = NONE; image = 1; undo = 0; tear = 1; undo = NONE; image",
            "image; tear = 1; tear = 0");
    }

    private static void roomAgain() {
        Calls.run("for hours", "19x hours 100; image; hours 100 = 2000; hours 1 = STATE; undo = 1900",
            "hours 100 = 2000");
        Calls.run("for flats", "11x flat 0 0 50; image; flat 0 1 50 = 11; flat 0 1 50 = FULL; undo = 0; count 1 = 11",
            "riser 1 = 0; flat 0 0 50 = 11; of 11 2 = 11; flat 0 1 50 = FULL");
        Calls.run("a full house comes back", "12x flat 0 0 50; image; undo = 0; flat 0 0 50 = FULL; count 1 = 12");
        Calls.run("for complaints", "flat 0 0 50; 23x complain 0 1; image; complain 0 1 = 23; complain 0 1 = FULL",
            "undo; count 3 = 23; complain 0 2 = 23; complaint 23 1 = 2; groups 0 = 2");
    }

    private static void rulesKept() {
        Calls.run("no RULE", "flat 0 0 50; image; tape 7; rule; share 0 = 7; undo; share 0 = 0; plain = 0");
        Calls.run("a RULE", "flat 0 0 50; tape 7; rule; image; plain = 1; undo; share 0 = 7; tape 99+9; rule",
            "share 0 = 108; undo; share 0 = 7; plain = 1; plain = 0; undo; plain = 1");
        String ones = "1+".repeat(39);
        Calls.run("80 bytes", "flat 0 0 50", "tape " + ones + "11", "rule; image; tape 3; rule; share 0 = 3; undo",
            "share 0 = 50");
    }

    private static void whatIsNotKept() {
        Calls.run("THE TAPE", "tape 1+; image; tape 2; undo = 0; count 4 = 3; rule = 0; undo = 0; count 4 = 0");
        Calls.run("a TAPE that is empty by then", "flat 0 0 50; tape 5; image; rule = 0; undo; count 4 = 0",
            "share 0 = 0");
        Calls.run("sheets", "sheet 0 8 2; write 0 1 5; image; write 0 1 6; sheet 1 16 1; undo; write 0 1 0 = 6",
            "write 1 0 0 = 0; sheet 0 0 0; undo; write 0 0 0 = MISSING");
    }

    private static void heldAndOpenKept() {
        Calls.run("each of a flat", "flat 5 2 31; turn 0 8; hold 0 1; window 0 1; drift 0 33; hours 2; image",
            "hold 0 0; turn 0 1; window 0 0; drift 0 3; hours 7; undo = 2; of 0 0 = 5; of 0 1 = 2; of 0 2 = 0",
            "of 0 3 = 31; of 0 4 = 8; of 0 5 = 1; of 0 6 = 1; of 0 14 = 33; turn 0 1 = STATE; count 2 = 1");
    }

    private static void countsOfNothing() {
        Calls.run("a new object", "count 0 = 0; count 1 = 0; count 2 = 0; count 3 = 0; count 4 = 0; count 5 = 0",
            "count 6 = 0",
            "count 7 = 0; count 8 = 0; count -1 = BEYOND; count 9 = BEYOND; count MIN = BEYOND; count MAX = BEYOND");
    }

    private static void countsOfMuch() {
        WarmthShared x = Calls.run("full", "12x flat 0 0 50; 24x complain 0 1; 20x feed 0 4; 20x hours 100; set 1 999");
        int flow = 0;
        int used = 0;
        int taken = 0;
        for (int i = 0; i < 12; i++) {
            x.hold(i, true);
            x.drift(i, 200);
            flow += x.of(i, 10);
            used += x.of(i, 11);
            taken += x.of(i, 12);
        }
        Calls.on(x, "full", "count 0 = 2000; count 1 = 12; count 2 = 12; count 3 = 24; count 4 = 80; count 7 = 0",
            "count 8 = " + flow, "count 5 = " + used, "count 6 = " + taken);
        if (used == 0 || flow < 980) {
            Check.fail("there should be much here: " + used + ", " + flow);
        }
    }

    private static void countOfRisers() {
        Calls.run("of like ones the least", "flat 0 3 9; count 7 = 3; flat 0 2 9; count 7 = 2; flat 0 1 9; count 7 = 1",
            "flat 0 0 9; count 7 = 0; flat 0 3 9; count 7 = 3; flat 0 1 9; count 7 = 1; flat 0 2 9; flat 0 2 9",
            "count 7 = 2");
    }

    private static void statusOfFindings() {
        Calls.run("none yet", "status -1 = 0; status 0 = 0; status 1 = 0; status 2 = 0; status 3 = 0; status 4 = 0",
            "status 5 = 0; status 6 = 0");
        Calls.run("one of each", "flat 0 0 50; riser 4 = BEYOND; 20x feed 0 4; feed 0 1 = FULL; as 0 1 = KIND",
            "undo = NONE; hold 0 1",
            "turn 0 0 = STATE; read 0 = MISSING; sheet 0 0 -1 = SIZE; status 0 = 1; status 1 = 1; status 2 = 1",
            "status 3 = 1; status 4 = 1; status 5 = 1; status 6 = 1; status -1 = 7");
        Calls.run("its own", "status 7 = BEYOND; status 0 = 1; status -2 = BEYOND; status 0 = 2; status MAX = BEYOND",
            "status MIN = BEYOND; status 0 = 4; status -1 = 4; status 6 = 0");
        Calls.run("a FAULT and a -1 are none", "rule = -1; tape x; rule = -1; few 0 1 3 = -1; status -1 = 0");
    }

    private static void statusIsForEver() {
        Calls.run("undo() takes none back", "image; riser 4 = BEYOND; count 9 = BEYOND; undo = 0; status -1 = 2",
            "status 0 = 2; image; undo = 0; tear = 1; undo = NONE; status -1 = 3; status 3 = 1");
        WarmthShared x = new WarmthShared();
        for (int i = 1; i <= 250; i++) {
            Check.due("riser", x.riser(-i), Check.BEYOND);
            Check.due("status of many", x.status(0), i);
        }
    }
}
