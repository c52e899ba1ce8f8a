/** Promises 12 to 19 and section 2, at the edges: THE TAPE's ends, where a TEXT may go on, ints, SHARES, rests. */
public final class BillsEdgesTest {
    private static final String NAMES = "utgwkfrp";
    private static final String DIGITS = "0123456789";
    private static final String SIGNS = "+-*/";

    public static void main(String[] args) {
        lowestBytes();
        tapeAtMost();
        ruleOfAnEmptyTape();
        ruleOfAFullTape();
        bytesThatGoOn();
        bracketsAtMost();
        numbersAtMost();
        intsGoRound();
        quotients();
        choices();
        sharesAtMost();
        billOfOneFlat();
        billOfAll();
        restsOfABill();
        allOfThePrice();
        nobodyPays();
        otherWays();
        meters();
        Check.end();
    }

    private static void lowestBytes() {
        // 1963525943 is "u" "\t" "\7" "7" from the highest byte on
        Calls.run("one, two, three, four", "feed 1963525943 1 = 1; rule = 0; feed 1963525943 2 = 2; rule = -1",
            "wipe = 2; feed 1963525943 3 = 3; rule = -1; wipe = 3; feed 1963525943 4 = 4; rule = -2; wipe = 4");
        Calls.run("below 0", "feed -1 1 = 1; rule = -1; wipe; feed -203 1 = 1; rule = 0; feed MIN 4 = 4; rule = -1");
        Calls.run("a byte of 0 is one", "feed 0 4 = 4; count 4 = 4; feed 0 1 = 5; wipe = 5; wipe = 0");
    }

    private static void tapeAtMost() {
        Calls.run("76 and 4", "19x feed 0 4; count 4 = 76; feed 0 4 = 80; feed 0 1 = FULL; count 4 = 80; wipe = 80");
        Calls.run("77 and 4", "19x feed 0 4; feed 0 1; feed 0 4 = FULL; count 4 = 77; feed 0 3 = 80; feed 0 4 = FULL");
        Calls.run("BEYOND ahead of FULL", "20x feed 0 4; feed 0 5 = BEYOND; feed 0 0 = BEYOND; feed 0 -1 = BEYOND;"
            + "feed 0 4 = FULL");
        Calls.run("room again", "20x feed 0 4; wipe = 80; feed 49 1 = 1; rule = 0; count 4 = 0; feed 49 1 = 1");
    }

    private static void ruleOfAnEmptyTape() {
        Calls.run("it ends too early", "rule = -1; plain = 0; status -1 = 0");
        Calls.run("THE RULE stays", "flat 0 0 50; tape 7; rule = 0; rule = -1; share 0 = 7; plain = 1; rule = -1",
            "plain = 0; share 0 = 0");
    }

    private static void ruleOfAFullTape() {
        String ones = "1+".repeat(39);
        Calls.run("80 bytes", "flat 0 0 50", "tape " + ones + "11", "count 4 = 80; rule = 0; count 4 = 0",
            "share 0 = 50");
        Calls.run("79 bytes", "flat 0 0 50", "tape " + ones + "1", "count 4 = 79; rule = 0; share 0 = 40");
        Calls.run("80 bytes that end too early", "tape " + ones + "1+", "rule = -81; count 4 = 80; feed 49 1 = FULL");
        Calls.run("the last of 80 bytes", "tape " + ones + "1)", "rule = -80; wipe = 80");
        Calls.run("80 bytes, an open one", "tape (" + ones + "1", "count 4 = 80; rule = -81");
        Calls.run("80 names", "tape " + "u".repeat(80), "rule = -2");
    }

    /** All 256 bytes behind the beginning of a text: those that end a TEXT, those with which it goes on. */
    private static void behind(String text, String ends, String goesOn) {
        WarmthShared x = new WarmthShared();
        for (int b = 0; b < 256; b++) {
            if (b % 32 == 0) {
                x = new WarmthShared();
            }
            x.wipe();
            Calls.on(x, "tape", text.isEmpty() ? "" : "tape " + text);
            x.feed(b, 1);
            int due = ends.indexOf(b) >= 0 ? 0 : -1 - text.length() - (goesOn.indexOf(b) >= 0 ? 1 : 0);
            Check.due("rule() of " + text + " and byte " + b, x.rule(), due);
        }
    }

    private static void bytesThatGoOn() {
        behind("", DIGITS + NAMES, "([");
        behind("7", DIGITS, SIGNS);
        behind("777", DIGITS, SIGNS);
        behind("7777", "", SIGNS);
        behind("u", "", SIGNS);
        behind("u+", DIGITS + NAMES, "([");
        behind("u*7/", DIGITS + NAMES, "([");
        behind("(", "", DIGITS + NAMES + "([");
        behind("(u", ")", SIGNS);
        behind("(7", ")", SIGNS + DIGITS);
        behind("(u)", "", SIGNS);
        behind("[", "", DIGITS + NAMES + "([");
        behind("[u", "", SIGNS + "?");
        behind("[7", "", SIGNS + "?" + DIGITS);
        behind("[u?", "", DIGITS + NAMES + "([");
        behind("[u?t", "", SIGNS + ":");
        behind("[u?t:", "", DIGITS + NAMES + "([");
        behind("[u?t:g", "]", SIGNS);
        behind("[u?t:g]", "", SIGNS);
        behind("([u?t:g]", ")", SIGNS);
        behind("[u?(t", "", SIGNS + ")");
        behind("[u?t:(g", "", SIGNS + ")");
        behind("[(u)", "", SIGNS + "?");
        behind("[[u?t:g]", "", SIGNS + "?");
        behind("(((", "", DIGITS + NAMES + "([");
        behind("((((", "", DIGITS + NAMES);
        behind("[[[", "", DIGITS + NAMES + "([");
        behind("[[[[", "", DIGITS + NAMES);
        behind("([([", "", DIGITS + NAMES);
        behind("[u?[u?[u?[u?", "", DIGITS + NAMES);
        behind("[u?t:[u?t:((u)+", "", DIGITS + NAMES + "([");
    }

    /** A text as THE RULE, and the SHARE that it says of flat 0. */
    private static void says(String text, int due) {
        Calls.run(text, "flat 0 0 50", "tape " + text, "rule = 0", "share 0 = " + due);
    }

    private static void fault(String text, int due) {
        Calls.run(text, "tape " + text, "rule = " + (-1 - due), "count 4 = " + text.length());
    }

    private static void bracketsAtMost() {
        says("((((7))))", 7);
        says("((((7))))+((((8))))", 15);
        says("[[[[1?2:3]?4:5]?6:7]?8:9]", 8);
        says("[0?1:[0?2:[0?3:[0?4:5]]]]", 5);
        says("((((1)+(2))+((3)))*((4)))", 24);
        says("([([0?1:2])?3:4])", 3);
        fault("(((((7)))))", 4);
        fault("[[[[[", 4);
        fault("((((7)+((", 8);
        fault("((((7))))+(((((", 14);
        fault("([([(", 4);
    }

    private static void numbersAtMost() {
        says("9999", 9999);
        says("0", 0);
        says("0000", 0);
        says("0009", 9);
        fault("10000", 4);
        fault("00000", 4);
        fault("99999", 4);
        fault("1+10000", 6);
        fault("u9", 1);
        fault("9u", 1);
    }

    private static void intsGoRound() {
        String most = "2147*1000*1000+483*1000+647";
        says("(" + most + ")/1000/1000", 2147);
        says("(" + most + "+1)/(0-1000)/1000", 2147);
        says("(0-" + most.replace('+', '-') + "-1)/(0-1000)/1000", 2147);
        says("(0-" + most.replace('+', '-') + "-2)/1000/1000", 2147);
        says(most + "+1", 0);
        says("0-" + most.replace('+', '-') + "-1", 0);
        says("0-" + most.replace('+', '-') + "-2", 99999);
        says("9999*9999*43/100", 41727);
        // the least int by -1 is itself
        says("(" + most + "+1)/(0-1)", 0);
        says("(" + most + "+1)/(0-1)/(0-1000)/1000", 2147);
    }

    private static void quotients() {
        says("7/2", 3);
        says("(0-7)/2+9", 6);
        says("7/(0-2)+9", 6);
        says("(0-7)/(0-2)", 3);
        says("(0-1)/2+9", 9);
        says("7/8", 0);
        says("8/8", 1);
        says("7/0", 0);
        says("0/0+4", 4);
        says("(0-7)/0+4", 4);
        says("7/(3-3)*5+1", 1);
    }

    private static void choices() {
        says("[0?1:2]", 2);
        says("[1?1:2]", 1);
        says("[0-1?1:2]", 1);
        says("[7/0?1:2]", 2);
        says("[1?5:1/0]", 5);
        says("[3-3?1/0:5]", 5);
    }

    private static void sharesAtMost() {
        says("0-1", 0);
        says("0-9999*9999", 0);
        says("1-1", 0);
        says("1", 1);
        says("9999*10+8", 99998);
        says("9999*10+9", 99999);
        says("9999*10+10", 99999);
        says("9999*9999", 99999);
    }

    private static void billOfOneFlat() {
        Calls.run("all of it", "flat 0 0 50; tape 1; rule; bill 0 0 = 0; bill 1 0 = 1; bill 9999 0 = 9999");
        Calls.run("the greatest SHARE", "flat 0 0 50; tape 9999*11; rule; bill 0 0 = 0; bill 9999 0 = 9999");
    }

    private static void billOfAll() {
        WarmthShared x = Calls.run("twelve", "12x flat 0 0 50; tape 9999*11; rule");
        for (int i = 0; i < 12; i++) {
            // 833 each, and 3 left
            Check.due("bill(9999, " + i + ")", x.bill(9999, i), i < 3 ? 834 : 833);
            Check.due("bill(0, " + i + ")", x.bill(0, i), 0);
            Check.due("bill(11, " + i + ")", x.bill(11, i), i < 11 ? 1 : 0);
        }
    }

    private static void restsOfABill() {
        String three = "3x flat 0 0 50;";
        // SHARES 1, 2, 4; rests 3, 6, 5 of 7
        Calls.run("the greatest rests", three, "tape [f?f*2:1]; rule; bill 10 0 = 1; bill 10 1 = 3; bill 10 2 = 6");
        Calls.run("one coin", three, "tape [f?f*2:1]; rule; bill 1 0 = 0; bill 1 1 = 0; bill 1 2 = 1");
        // SHARES 1, 1, 2: rests 1, 1, 2 of 4; then 2, 2, 0
        Calls.run("like rests", three, "tape [f-2?1:2]; rule; bill 1 0 = 0; bill 1 1 = 0; bill 1 2 = 1; bill 2 0 = 1",
            "bill 2 1 = 0; bill 2 2 = 1; bill 3 0 = 1; bill 3 1 = 1; bill 3 2 = 1; bill 4 0 = 1; bill 4 1 = 1",
            "bill 4 2 = 2");
        Calls.run("no SHARE, no coin", three, "tape [f-1?1:0]; rule; bill 1 0 = 1; bill 1 1 = 0; bill 1 2 = 0",
            "bill 3 0 = 2; bill 3 1 = 0; bill 3 2 = 1");
    }

    private static void allOfThePrice() {
        for (int price : new int[] {0, 1, 2, 11, 12, 13, 77, 78, 79, 9998, 9999}) {
            WarmthShared x = Calls.run("by f", "12x flat 0 0 50; tape f*7/2; rule");
            int all = 0;
            for (int i = 0; i < 12; i++) {
                all += x.bill(price, i);
            }
            Check.due("what all pay", all, price);
        }
    }

    private static void nobodyPays() {
        Calls.run("no USED", "flat 0 0 50; share 0 = 0; bill 0 0 = NONE; bill 9999 0 = NONE; other 0 0 = NONE");
        Calls.run("SHARES below 0", "flat 0 0 50; hours 1; tape 0-5; rule; bill 5 0 = NONE; other 5 0 = NONE; plain;"
            + "bill 5 0 = 5; other 5 0 = 0");
        Calls.run("one above 0 is enough", "3x flat 0 0 50; tape f/2; rule; bill 5 0 = 0; bill 5 1 = 0; bill 5 2 = 5");
        Calls.run("without THE RULE nobody", "flat 0 0 50; tape 1; rule; bill 5 0 = 5; other 5 0 = NONE; status 3 = 1");
    }

    private static void otherWays() {
        // USED 16 and 24 by FLOW 40 and 60
        String two = "flat 0 0 50; flat 0 1 50; turn 1 6; hours 1; of 0 11 = 16; of 1 11 = 24;";
        Calls.run("more and less", two, "tape 1; rule; other 10 0 = -1; other 10 1 = 1; other 0 0 = 0; other 1 0 = -1;"
            + "other 1 1 = 1");
        Calls.run("all or nothing", two, "tape f; rule; other 9999 0 = 4000; other 9999 1 = -4000");
        Calls.run("the same", two, "tape u; rule; other 9999 0 = 0; other 9999 1 = 0");
    }

    private static void meters() {
        Calls.run("no flat", "meters 0 = 0; meters 1 = NONE; meters 2 = BEYOND; meters -1 = BEYOND");
        Calls.run("one flat", "flat 0 0 50; meters 0 = 0; meters 1 = 0; drift 0 0; hours 1; meters 0 = -40",
            "meters 1 = 0");
        Calls.run("above and below alike", "flat 0 0 50; flat 0 2 50; drift 0 150; drift 1 50; hours 1; meters 0 = 0",
            "meters 1 = 0; drift 1 0; hours 1; meters 1 = 1");
        Calls.run("the last of twelve", "12x flat 0 0 50; drift 11 200; hours 1; meters 1 = 11");
    }
}
