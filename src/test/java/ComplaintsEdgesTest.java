/** Promises 26 to 29 at the edges: none, 24 of them, 3 hours and 4, ends of a riser, the last hour. */
public final class ComplaintsEdgesTest {
    public static void main(String[] args) {
        none();
        full();
        roomAgain();
        hoursApart();
        byWayOfOthers();
        endsOfARiser();
        otherRisers();
        flatsThatComeLater();
        sorts();
        allApart();
        allTogether();
        leastOfAGroup();
        firstAndLastHour();
        Check.end();
    }

    private static void none() {
        Calls.run("none", "flat 0 0 50; groups 0 = 0; groups 1 = 0; groups 2 = 0; count 3 = 0; complaint 0 0 = BEYOND",
            "joined 0 0 = BEYOND");
        Calls.run("one", "flat 0 0 50; complain 0 2 = 0; joined 0 0 = 1; joined 0 1 = BEYOND; joined 1 0 = BEYOND",
            "complaint 0 3 = 0; complaint 1 3 = BEYOND; groups 0 = 1; groups 1 = 0; groups 2 = 1");
    }

    private static void full() {
        Calls.run("24", "flat 0 0 50; 23x complain 0 1; complain 0 2 = 23; complain 0 1 = FULL; complain 0 2 = FULL",
            "count 3 = 24; complaint 23 1 = 2; complaint 24 0 = BEYOND; joined 23 23 = 1; joined 0 24 = BEYOND",
            "complain 1 1 = BEYOND; complain 0 0 = BEYOND; complain 0 3 = BEYOND; groups 0 = 2; status 1 = 2");
    }

    private static void roomAgain() {
        Calls.run("behind undo()", "flat 0 0 50; image; 24x complain 0 1; complain 0 1 = FULL; undo; count 3 = 0",
            "complain 0 2 = 0; complaint 0 1 = 2; groups 1 = 0; groups 2 = 1");
    }

    private static void hoursApart() {
        String two = "flat 0 0 50; flat 0 0 50; complain 0 1;";
        Calls.run("the same hour", two, "complain 1 1; joined 0 1 = 1; complain 0 1; joined 0 2 = 1; groups 1 = 1");
        Calls.run("3 hours", two, "hours 3; complain 1 1; joined 0 1 = 1; groups 1 = 1; complaint 1 3 = 0");
        Calls.run("4 hours", two, "hours 4; complain 1 1; joined 0 1 = 0; groups 1 = 2; complaint 1 3 = 1");
        Calls.run("the same flat, 3 hours", two, "hours 3; complain 0 1; joined 0 1 = 1");
        Calls.run("the same flat, 4 hours", two, "hours 4; complain 0 1; joined 0 1 = 0");
    }

    private static void byWayOfOthers() {
        Calls.run("3 and 3 hours", "flat 0 0 50; complain 0 1; hours 3; complain 0 1; hours 3; complain 0 1",
            "joined 0 2 = 1",
            "complaint 2 3 = 0; hours 4; complain 0 1; joined 2 3 = 0; joined 0 3 = 0; complaint 3 3 = 3",
            "groups 1 = 2");
        Calls.run("the way is of the other sort", "flat 0 0 50; complain 0 1; hours 3; complain 0 2; hours 3",
            "complain 0 1; joined 0 2 = 0; joined 0 1 = 0; joined 1 2 = 0; groups 0 = 3; groups 1 = 2; groups 2 = 1");
        Calls.run("by the flat between", "3x flat 0 0 50; complain 0 1; complain 2 1; joined 0 1 = 0; complain 1 1",
            "joined 0 1 = 1; complaint 1 3 = 0; complaint 2 3 = 0; groups 1 = 1");
    }

    private static void endsOfARiser() {
        WarmthShared x = Calls.run("twelve on a riser", "12x flat 0 1 50; complain 0 1; complain 11 1; joined 0 1 = 0",
            "complain 10 1; joined 1 2 = 1; complain 1 1; joined 0 3 = 1; groups 1 = 2");
        for (int i = 2; i < 10; i++) {
            Check.due("two groups till the last", x.groups(1), 2);
            x.complain(i, 1);
        }
        Calls.on(x, "all", "groups 1 = 1; joined 0 1 = 1");
    }

    private static void otherRisers() {
        Calls.run("beside is not above", "flat 0 0 50; flat 0 1 50; flat 0 2 50; complain 0 1; complain 1 1",
            "complain 2 1; groups 1 = 3; joined 0 1 = 0; joined 1 2 = 0");
        Calls.run("the next place of another riser", "flat 0 0 50; flat 0 1 50; flat 0 1 50; complain 0 2",
            "complain 2 2; joined 0 1 = 0; complain 1 2; joined 1 2 = 1; groups 2 = 2");
        // flats 0 and 2 are right above one another, though their numbers are two apart
        Calls.run("by places, not by numbers", "flat 0 0 50; flat 0 3 50; flat 0 0 50; complain 0 1; complain 2 1",
            "complain 1 1; joined 0 1 = 1; joined 0 2 = 0; joined 1 2 = 0");
    }

    private static void flatsThatComeLater() {
        Calls.run("a flat above", "flat 0 0 50; complain 0 1; flat 0 0 50; complain 1 1; joined 0 1 = 1");
    }

    private static void sorts() {
        Calls.run("COLD and HOT", "flat 0 0 50; complain 0 1; complain 0 2; complain 0 1; complain 0 2; joined 0 1 = 0",
            "joined 0 2 = 1; joined 1 3 = 1; complaint 3 3 = 1; groups 0 = 2; groups 1 = 1; groups 2 = 1");
    }

    private static void allApart() {
        WarmthShared x = Calls.run("one flat", "flat 0 0 50");
        for (int k = 0; k < 24; k++) {
            Check.due("complain", x.complain(0, 1), k);
            x.hours(4);
        }
        Calls.on(x, "24 groups", "groups 1 = 24; groups 0 = 24; groups 2 = 0; complaint 23 3 = 23",
            "complaint 23 2 = 92");
    }

    private static void allTogether() {
        WarmthShared x = Calls.run("one flat", "flat 0 0 50");
        for (int k = 0; k < 24; k++) {
            x.complain(0, 2);
            x.hours(3);
        }
        Calls.on(x, "one group", "groups 2 = 1; groups 1 = 0; complaint 23 3 = 0; joined 0 23 = 1",
            "complaint 23 2 = 69");
    }

    private static void leastOfAGroup() {
        Calls.run("two groups become one", "5x flat 0 0 50; complain 4 1; complain 3 1; complain 0 1; complain 1 1",
            "complaint 1 3 = 0; complaint 3 3 = 2; complain 2 1 = 4; complaint 0 3 = 0; complaint 1 3 = 0",
            "complaint 2 3 = 0; complaint 3 3 = 0; complaint 4 3 = 0; groups 1 = 1");
    }

    private static void firstAndLastHour() {
        Calls.run("hours 0 and 2000", "flat 0 0 50; complain 0 1; 20x hours 100; complain 0 1; complaint 0 2 = 0",
            "complaint 1 2 = 2000; joined 0 1 = 0; complain 0 1 = 2; joined 1 2 = 1");
    }
}
