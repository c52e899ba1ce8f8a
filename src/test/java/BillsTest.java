/** Promises 12 to 19: THE TAPE, THE RULE, SHARES, bills, meters. */
public final class BillsTest {
    public static void main(String[] args) {
        feed();
        feedFull();
        ruleFaults();
        ruleStands();
        ruleKeepsAtAFault();
        plain();
        shareValues();
        shareNames();
        shareOfMuch();
        bill();
        other();
        meters();
        Check.end();
    }

    private static WarmthShared withFlats(int n) {
        WarmthShared x = new WarmthShared();
        for (int i = 0; i < n; i++) {
            x.flat(0, i % 4, 50);
        }
        return x;
    }

    private static void feed() {
        WarmthShared x = withFlats(1);
        Check.due("12: n 0", x.feed('1', 0), Check.BEYOND);
        Check.due("12: n 5", x.feed('1', 5), Check.BEYOND);
        Check.due("12: n -1", x.feed('1', -1), Check.BEYOND);
        Check.due("12: three lowest", x.feed('9' << 24 | '2' << 16 | '+' << 8 | '3', 3), 3);
        Check.due("12: behind it", x.feed('*' << 8 | '5', 2), 5);
        Check.due("38: bytes of THE TAPE", x.count(4), 5);
        Check.due("14: 2+3*5", x.rule(), 0);
        Check.due("12: highest first", x.share(0), 17);
        Check.due("12: four of them, all 255", x.feed(-1, 4), 4);
        Check.due("14: no such byte", x.rule(), -1);
        Check.due("13: wipe()", x.wipe(), 4);
        Check.due("13: wipe()", x.wipe(), 0);
        Check.due("13: count(4)", x.count(4), 0);
    }

    private static void feedFull() {
        WarmthShared x = new WarmthShared();
        for (int i = 1; i <= 19; i++) {
            Check.due("12: feed", x.feed(0, 4), 4 * i);
        }
        Check.due("12: to 79", x.feed(0, 3), 79);
        Check.due("12: 81 would be", x.feed(0, 2), Check.FULL);
        Check.due("12: nothing came", x.count(4), 79);
        Check.due("12: to 80", x.feed(0, 1), 80);
        Check.due("12: full", x.feed(0, 1), Check.FULL);
        Check.due("12: BEYOND is asked ahead of FULL", x.feed(0, 0), Check.BEYOND);
        Check.due("13: wipe()", x.wipe(), 80);
        Check.due("12: anew", x.feed(0, 1), 1);
    }

    private static void ruleFaults() {
        WarmthShared x = new WarmthShared();
        Object[][] faults = {{"", 0}, {"+1", 0}, {"-1", 0}, {"x", 0}, {"U", 0}, {" 1", 0}, {")", 0}, {"?", 0},
            {"\0", 0}, {"\u00f5", 0}, {"1 ", 1}, {"1)", 1}, {"1u", 1}, {"u1", 1}, {"uu", 1}, {"1(", 1}, {"u[", 1},
            {"1]", 1}, {"1?", 1}, {"1:", 1}, {"()", 1}, {"[]", 1}, {"1+", 2}, {"1++1", 2}, {"1*-1", 2}, {"u/", 2},
            {"(1", 2}, {"(1]", 2}, {"(1?", 2}, {"[1)", 2}, {"[1:", 2}, {"[1", 2}, {"[1]", 2}, {"(1)(", 3}, {"(1)1", 3},
            {"(1)u", 3}, {"[1?", 3}, {"[1??", 3}, {"[1?2", 4}, {"[1?2]", 4}, {"[1?2?", 4}, {"[1?2)", 4},
            {"[1?2:", 5}, {"[1?2:]", 5}, {"[1?2:3", 6}, {"[1?2:3)", 6}, {"[1?2:3:", 6}, {"[1?2:3]]", 7},
            {"12345", 4}, {"00000", 4}, {"1+12345", 6}, {"(((((1)))))", 4}, {"([([(", 4}, {"[[[[[", 4},
            {"[1?[1?[1?[1?(", 12}, {"((((1)+(1", 9}, {"((((1)+(1)+((", 12}, {"(1+2)*(3-4", 10}};
        for (Object[] row : faults) {
            String text = (String) row[0];
            Check.due("14: FAULT of " + text, Check.rule(x, text), -1 - (Integer) row[1]);
        }
        Check.due("14: a FAULT is no finding", x.status(-1), 0);
        Check.due("14: no RULE came", x.plain(), 0);
    }

    private static void ruleStands() {
        WarmthShared x = new WarmthShared();
        String[] texts = {"1", "0", "9999", "0000", "u", "t", "g", "w", "k", "f", "r", "p", "(1)", "((((u))))",
            "[1?2:3]", "[[[[1?1:1]?1:1]?1:1]?1:1]", "([([u?u:u])?1:2])", "(1)+(1)+(1)+(1)+(1)+(1)",
            "[u+1?t*2:g/3]-(w-k)*(f+r)/p", "1" + Check.sumOfOnes(40)};
        for (String text : texts) {
            Check.due("14: " + text, Check.rule(x, text), 0);
            Check.due("14: a RULE came", x.plain(), 1);
        }
    }

    private static void ruleKeepsAtAFault() {
        WarmthShared x = withFlats(1);
        Check.due("14: 7", Check.rule(x, "7"), 0);
        Check.tape(x, "8+");
        Check.due("14: too early", x.rule(), -3);
        Check.due("14: THE TAPE stays", x.count(4), 2);
        Check.due("14: THE RULE stays", x.share(0), 7);
        Check.due("12: on behind it", x.feed('1', 1), 3);
        Check.due("14: now it stands", x.rule(), 0);
        Check.due("14: THE TAPE is empty then", x.count(4), 0);
        Check.due("14: THE RULE is new", x.share(0), 9);
    }

    private static void plain() {
        WarmthShared x = withFlats(1);
        x.hours(1);
        Check.rule(x, "5");
        Check.due("16: by THE RULE", x.share(0), 5);
        Check.due("15: plain()", x.plain(), 1);
        Check.due("16: without", x.share(0), 40);
        Check.due("15: plain()", x.plain(), 0);
    }

    private static void shareValues() {
        WarmthShared x = withFlats(1);
        Object[][] shares = {{"1+2*3", 7}, {"(1+2)*3", 9}, {"10-4-3", 3}, {"10-(4-3)", 9}, {"8/3", 2}, {"2*3/4", 1},
            {"3/4*4", 0}, {"100/10/5", 2}, {"7/0", 0}, {"7/0+5", 5}, {"0-5", 0}, {"5-9+5", 1}, {"(0-7)/2+9", 6},
            {"9999*11", 99999}, {"9999*10", 99990}, {"9999*10+9", 99999}, {"9999*10+8", 99998}, {"9999*9999", 99999},
            {"[0?1:2]", 2}, {"[5?1:2]", 1}, {"[0-1?1:2]", 1},
            {"[1-1?1/0:[2?3:4]]", 3}, {"0007", 7}, {"[0?1:2]*10+[1?3:4]", 23}};
        for (Object[] row : shares) {
            String text = (String) row[0];
            Check.due("14: " + text, Check.rule(x, text), 0);
            Check.due("16: " + text, x.share(0), (Integer) row[1]);
        }
        // 2147 * 1000 * 1000 + 483 * 1000 + 648 is one more than an int holds
        Check.rule(x, "(2147*1000*1000+483*1000+648)/(0-9999*10)");
        Check.due("16: ints go round", x.share(0), Integer.MIN_VALUE / -99990);
        Check.rule(x, "(2147*1000*1000+483*1000+648)/(0-1)+2147*1000*1000+483*1000+653");
        Check.due("16: the least int by -1 goes round too", x.share(0), 5);
        Check.due("16: flat 1", x.share(1), Check.BEYOND);
        Check.due("16: flat -1", x.share(-1), Check.BEYOND);
    }

    private static void shareNames() {
        WarmthShared x = new WarmthShared();
        x.flat(0, 2, 50);
        x.flat(4, 2, 77);
        x.turn(0, 0);
        x.drift(1, 50);
        x.hours(2);
        int[] whats = {11, 12, 13, 3, 0, -1, 1, 2};
        for (int i = 0; i < whats.length; i++) {
            Check.rule(x, "utgwkfrp".charAt(i) + "+1000");
            int due = whats[i] < 0 ? 1 : x.of(1, whats[i]);
            Check.due("16: " + "utgwkfrp".charAt(i), x.share(1), due + 1000);
        }
        if (x.of(1, 11) == x.of(1, 12) || x.of(1, 13) >= 0) {
            Check.fail("16: u and t should differ here, and g be below 0");
        }
        Check.rule(x, "g");
        Check.due("16: 0 at least", x.share(1), 0);
        Check.due("16: the other one's g", x.share(0), x.of(0, 13));
    }

    private static void shareOfMuch() {
        WarmthShared x = new WarmthShared();
        x.flat(4, 0, 99);
        x.window(0, true);
        x.drift(0, 200);
        x.set(0, -300);
        x.set(1, 999);
        x.set(2, 900);
        x.hours(100);
        x.hours(100);
        x.hours(100);
        int used = x.of(0, 11);
        if (used <= 99999) {
            Check.fail("16: USED should be above 99999 here, not " + used);
        }
        Check.due("16: 99999 at most", x.share(0), 99999);
        Check.due("17: all of it", x.bill(9999, 0), 9999);
        Check.rule(x, "u");
        Check.due("16: 99999 at most", x.share(0), 99999);
        Check.rule(x, "u/3");
        Check.due("16: u is all of USED", x.share(0), used / 3);
    }

    private static void dueBills(WarmthShared x, int price, int... due) {
        for (int i = 0; i < due.length; i++) {
            Check.due("17: bill(" + price + ", " + i + ")", x.bill(price, i), due[i]);
        }
    }

    private static void bill() {
        WarmthShared x = withFlats(3);
        Check.due("17: nobody used any", x.bill(10, 0), Check.NONE);
        Check.rule(x, "1");
        dueBills(x, 100, 34, 33, 33);
        dueBills(x, 101, 34, 34, 33);
        dueBills(x, 2, 1, 1, 0);
        dueBills(x, 0, 0, 0, 0);
        dueBills(x, 9999, 3333, 3333, 3333);
        Check.rule(x, "f+1");
        dueBills(x, 10, 2, 3, 5);
        // rests 5, 4, 3
        dueBills(x, 11, 2, 4, 5);
        Check.rule(x, "2-f");
        // rests of 2, 1, 0: 200 % 3, 100 % 3, 0
        dueBills(x, 100, 67, 33, 0);
        Check.rule(x, "[f-1?9999*11:1]");
        dueBills(x, 9999, 5000, 0, 4999);
        Check.rule(x, "[f-1?0:1]");
        dueBills(x, 9, 0, 9, 0);
        Check.rule(x, "0-1");
        Check.due("17: no SHARE above 0", x.bill(10, 0), Check.NONE);
        Check.due("17: BEYOND is asked ahead of NONE", x.bill(10000, 0), Check.BEYOND);
        Check.due("17: price -1", x.bill(-1, 0), Check.BEYOND);
        Check.due("17: flat 3", x.bill(1, 3), Check.BEYOND);
        Check.due("17: flat -1", x.bill(1, -1), Check.BEYOND);
        Check.due("17: no flats", new WarmthShared().bill(1, 0), Check.BEYOND);
    }

    private static void other() {
        WarmthShared x = withFlats(3);
        x.turn(2, 0);
        Check.due("18: nobody pays", x.other(10, 0), Check.NONE);
        Check.rule(x, "f");
        Check.due("18: nobody pays without", x.other(10, 0), Check.NONE);
        x.hours(1);
        // USED 20, 20, 0 pay 5, 5, 0; by THE RULE 0, 3 and rest 1, 6 and rest 2
        Check.due("18: other(10, 0)", x.other(10, 0), 5);
        Check.due("18: other(10, 1)", x.other(10, 1), 2);
        Check.due("18: other(10, 2)", x.other(10, 2), -7);
        Check.rule(x, "0");
        Check.due("18: nobody pays with it", x.other(10, 0), Check.NONE);
        x.plain();
        Check.due("18: without any RULE", x.other(10, 0), 0);
        Check.due("18: price 0", x.other(0, 0), 0);
        Check.due("18: price 9999", x.other(9999, 0), 0);
        Check.due("18: price 10000", x.other(10000, 0), Check.BEYOND);
        Check.due("18: price -1", x.other(-1, 0), Check.BEYOND);
        Check.due("18: flat 3", x.other(1, 3), Check.BEYOND);
        Check.due("18: flat -1", x.other(1, -1), Check.BEYOND);
    }

    private static void meters() {
        WarmthShared x = new WarmthShared();
        Check.due("19: meters(0)", x.meters(0), 0);
        Check.due("19: no FLAT", x.meters(1), Check.NONE);
        Check.due("19: meters(2)", x.meters(2), Check.BEYOND);
        Check.due("19: meters(-1)", x.meters(-1), Check.BEYOND);
        for (int i = 0; i < 4; i++) {
            x.flat(0, i, 50);
        }
        Check.due("19: like ones", x.meters(1), 0);
        x.drift(1, 50);
        x.drift(2, 150);
        x.drift(3, 60);
        x.hours(1);
        // IN 25 * 400 / 1000 = 10; USED 10, 5, 15, 6
        Check.due("19: meters(0)", x.meters(0), -4);
        Check.due("19: of like ones the least", x.meters(1), 1);
        x.drift(1, 100);
        x.hours(1);
        Check.due("19: the farthest", x.meters(1), 2);
    }
}
