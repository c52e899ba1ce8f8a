import java.util.Set;
import java.util.TreeSet;

/**
 * Every range that an argument has: the last values that are taken and the first that aren't, on both sides. Every
 * finding of every call, and which of two comes first. Each refused call is made on one of two objects that are
 * alike; behind it they still are, but for status().
 */
public final class RefusedTest {
    private static final String EMPTY = "";
    /** Three flats, one HELD; three complaints; three sheets, the fourth MISSING; a rule, a tape, an image. */
    private static final String HOUSE = "flat 0 0 50; flat 1 0 60; flat 5 1 70; turn 0 7; hold 1 1; window 2 1;"
        + "drift 2 50; set 0 -20; set 1 120; set 2 550; hours 3; complain 0 1; complain 1 1; tape u+3; rule; image;"
        + "hours 1; complain 2 2; turn 0 5; set 0 10; drift 1 70; tape t*2; rule; tape w+u; sheet 0 8 5; sheet 1 16 4;"
        + "sheet 2 8 3; write 0 0 -9; write 0 4 8; write 1 0 200; write 1 3 1; write 2 1 77";
    /** No room for a flat, a complaint, a byte, an hour. */
    private static final String FULL = "image; 3x flat 0 0 50; 3x flat 4 1 60; 3x flat 5 2 70; 3x flat 2 3 99;"
        + "12x complain 1 1; 12x complain 7 2; 20x hours 100; 19x feed 824914219 4; feed 824914225 4;"
        + "sheet 0 16 40; sheet 1 16 40; sheet 2 64 40; sheet 3 64 40";
    /** The same with a byte and an hour to spare. */
    private static final String NEARLY = "flat 0 0 50; 19x hours 100; hours 99; 19x feed 824914219 4; feed 3222321 3";
    /** Nobody may turn a valve; nobody has used any; by the rule nobody pays. */
    private static final String STIFF = "flat 0 0 50; hold 0 1; tape 0-1; rule";
    private static final String UNUSED = "flat 0 0 50; tape 7; rule";
    private static final String UNRULED = "flat 0 0 50; hours 1; tape 0; rule";
    private static final String TORN = "flat 0 0 50; image; tear";

    /** The findings that the document names, call by call. */
    static final String[] NAMED = {"flat BEYOND FULL", "of BEYOND", "as BEYOND KIND", "set BEYOND",
        "turn BEYOND STATE", "hold BEYOND", "window BEYOND", "drift BEYOND", "hours BEYOND STATE", "riser BEYOND",
        "feed BEYOND FULL", "share BEYOND", "bill BEYOND NONE", "other BEYOND NONE", "meters BEYOND NONE",
        "felt BEYOND", "even BEYOND", "foretold BEYOND", "few BEYOND NONE", "setback BEYOND", "works BEYOND",
        "complain BEYOND FULL", "complaint BEYOND", "joined BEYOND", "groups BEYOND", "sheet BEYOND SIZE",
        "write BEYOND MISSING", "copy BEYOND MISSING KIND", "weather BEYOND MISSING", "read BEYOND MISSING",
        "undo NONE", "count BEYOND", "status BEYOND"};
    private static final Set<String> SEEN = new TreeSet<>();

    public static void main(String[] args) {
        rangesOfFlats();
        rangesOfBills();
        rangesOfWhatIsFelt();
        rangesOfComplaints();
        rangesOfSheets();
        rangesOfImages();
        findingsOfFlats();
        findingsOfBills();
        findingsOfWhatIsFelt();
        findingsOfComplaints();
        findingsOfSheets();
        findingsOfCopy();
        findingsOfImages();
        allAreSeen();
        Check.end();
    }

    private static void allAreSeen() {
        for (String row : NAMED) {
            String[] words = row.split(" ");
            for (int i = 1; i < words.length; i++) {
                if (!SEEN.remove(words[0] + " " + words[i])) {
                    Check.fail("no test of " + words[i] + " of " + words[0]);
                }
            }
        }
        if (!SEEN.isEmpty()) {
            Check.fail("findings that the document does not name: " + SEEN);
        }
    }

    /** Calls that answer a finding in a state. */
    private static void refused(String state, String finding, String... calls) {
        for (String call : calls) {
            for (int part = 0; part < Probe.PARTS; part++) {
                refusedOnce(state, finding, call, part);
            }
            SEEN.add(call.split(" ")[0] + " " + finding);
        }
    }

    private static void refusedOnce(String state, String finding, String call, int part) {
        WarmthShared x = made(state);
        WarmthShared twin = made(state);
        int[] due = statuses(x);
        due[0]++;
        due[(int) (Check.BEYOND - Calls.number(finding)) + 1]++;
        Check.due(call, Calls.ask(x, call), Calls.number(finding));
        int[] got = statuses(x);
        for (int i = 0; i < due.length; i++) {
            Check.due("39: status(" + (i - 1) + ") behind " + call, got[i], due[i]);
        }
        String told = Probe.tell(x, part);
        if (!told.equals(Probe.tell(twin, part))) {
            Check.fail(call + " answered " + finding + " and changed something");
        }
    }

    private static WarmthShared made(String state) {
        WarmthShared x = Calls.run("setup", state);
        Check.due("findings of the setup " + state, x.status(-1), 0);
        return x;
    }

    private static int[] statuses(WarmthShared x) {
        int[] all = new int[8];
        for (int i = 0; i < all.length; i++) {
            all[i] = x.status(i - 1);
        }
        return all;
    }

    /** Calls that answer no finding in a state: what they answer, and all behind them, is as the model has it. */
    private static void taken(String state, String... calls) {
        for (String call : calls) {
            for (int part = 0; part < Probe.PARTS; part++) {
                WarmthShared x = made(state);
                Model model = new Model();
                Calls.on(model, "setup of the model", state);
                long got = Calls.ask(x, call);
                Check.due(call, got, Calls.ask(model, call));
                Check.due("a finding of " + call, x.status(-1), 0);
                if (!Probe.tell(x, part).equals(Probe.tell(model, part))) {
                    Check.fail(call + " left another state than the model's");
                }
            }
        }
    }

    /** A range of the argument that stands as '?' in a call. */
    private static void range(String state, String call, int least, int most) {
        range(state, call, least, most, "BEYOND");
    }

    private static void range(String state, String call, int least, int most, String below) {
        taken(state, with(call, least), with(call, most));
        refused(state, below, with(call, least - 1), with(call, Integer.MIN_VALUE));
        refused(state, "BEYOND", with(call, most + 1), with(call, Integer.MAX_VALUE));
    }

    private static String with(String call, int v) {
        return call.replace("?", "" + v);
    }

    private static void rangesOfFlats() {
        range(HOUSE, "flat ? 0 1", 0, 5);
        range(HOUSE, "flat 0 ? 1", 0, 3);
        range(HOUSE, "flat 0 0 ?", 1, 99);
        range(HOUSE, "of ? 0", 0, 2);
        range(FULL, "of ? 0", 0, 11);
        range(HOUSE, "of 2 ?", 0, 14);
        range(HOUSE, "as ? 0", 0, 2);
        range(HOUSE, "set 0 ?", -300, 400);
        range(HOUSE, "set 1 ?", 0, 999);
        range(HOUSE, "set 2 ?", 0, 900);
        range(HOUSE, "set ? 0", 0, 2);
        range(HOUSE, "turn 0 ?", 0, 8);
        range("flat 0 0 50; flat 0 0 50", "turn ? 8", 0, 1);
        range(HOUSE, "hold ? 1", 0, 2);
        range(HOUSE, "hold ? 0", 0, 2);
        range(HOUSE, "window ? 1", 0, 2);
        range(HOUSE, "window ? 0", 0, 2);
        range(HOUSE, "drift 0 ?", 0, 200);
        range(HOUSE, "drift ? 5", 0, 2);
        range(HOUSE, "hours ?", 1, 100);
        range(HOUSE, "riser ?", 0, 3);
    }

    private static void rangesOfBills() {
        range(HOUSE, "feed 1953656110 ?", 1, 4);
        range(HOUSE, "share ?", 0, 2);
        range(HOUSE, "bill ? 1", 0, 9999);
        range(HOUSE, "bill 100 ?", 0, 2);
        range(HOUSE, "other ? 1", 0, 9999);
        range(HOUSE, "other 100 ?", 0, 2);
        range(HOUSE, "meters ?", 0, 1);
    }

    private static void rangesOfWhatIsFelt() {
        range(HOUSE, "felt ? 150250", 0, 2);
        range(HOUSE, "felt 0 ?", 0, 999999);
        range(HOUSE, "even ? 1", 0, 999999);
        range(HOUSE, "even 150250 ?", 0, 50);
        range(HOUSE, "foretold ? 1", 0, 2);
        range(HOUSE, "foretold 1 ?", 0, 100);
        range(EMPTY, "few ? 1 0", 0, 999999);
        range(HOUSE, "few 999 ? 0", 1, 8);
        range(HOUSE, "few 999 1 ?", 0, 4);
        range(HOUSE, "setback ? 2", 0, 900);
        range(HOUSE, "setback 300 ?", 1, 50);
        range(EMPTY, "setback 300 ?", 1, 50);
        range(HOUSE, "works ? 1 2", 0, 2);
        range(HOUSE, "works 0 ? 9", 1, 99);
        range(HOUSE, "works 2 1 ?", 1, 50);
    }

    private static void rangesOfComplaints() {
        range(HOUSE, "complain ? 1", 0, 2);
        range(HOUSE, "complain 0 ?", 1, 2);
        range(HOUSE, "complaint ? 0", 0, 2);
        range(FULL, "complaint ? 3", 0, 23);
        range(HOUSE, "complaint 2 ?", 0, 3);
        range(HOUSE, "joined ? 1", 0, 2);
        range(HOUSE, "joined 1 ?", 0, 2);
        range(FULL, "joined ? ?", 0, 23);
        range(HOUSE, "groups ?", 0, 2);
        range(EMPTY, "groups ?", 0, 2);
    }

    private static void rangesOfSheets() {
        range(HOUSE, "sheet ? 8 2", 0, 3);
        for (int bits : new int[] {0, 8, 16, 64}) {
            range(HOUSE, "sheet 0 " + bits + " ?", 0, 40, "SIZE");
            range(HOUSE, "sheet 3 " + bits + " ?", 0, 40, "SIZE");
            refused(HOUSE, "BEYOND", "sheet 0 " + (bits - 1) + " 1", "sheet 0 " + (bits + 1) + " 1");
        }
        refused(HOUSE, "BEYOND", "sheet 0 32 1", "sheet 0 24 1", "sheet 0 -8 1", "sheet 0 MIN 1", "sheet 0 MAX 1");
        range(FULL, "write ? 0 5", 0, 3);
        range(FULL, "write 3 ? 5", 0, 39);
        range(HOUSE, "write 1 ? 5", 0, 3);
        refused("sheet 0 64 0", "BEYOND", "write 0 0 5", "write 0 -1 5");
        range(FULL, "weather ?", 0, 3);
        range(FULL, "read ?", 0, 3);
    }

    private static void rangesOfImages() {
        range(HOUSE, "count ?", 0, 8);
        range(EMPTY, "count ?", 0, 8);
        range(HOUSE, "status ?", -1, 6);
        range(EMPTY, "status ?", -1, 6);
    }

    private static void findingsOfFlats() {
        refused(FULL, "FULL", "flat 0 0 1", "flat 5 3 99");
        refused(FULL, "BEYOND", "flat 6 0 1", "flat -1 0 1", "flat 0 4 1", "flat 0 -1 1", "flat 0 0 0", "flat 0 0 100");
        refused(EMPTY, "BEYOND", "of 0 0", "as 0 0", "turn 0 0", "hold 0 1", "window 0 1", "drift 0 0");
        refused(HOUSE, "BEYOND", "of 3 15", "of -1 -1", "set 3 -301", "set -1 1000");
        taken(HOUSE, "as 0 0", "as 1 0", "as 1 1", "as 2 0", "as 2 3", "as 2 5");
        refused(HOUSE, "KIND", "as 0 1", "as 0 5", "as 1 4", "as 1 2", "as 2 1", "as 2 4");
        refused(HOUSE, "BEYOND", "as 0 6", "as 0 -1", "as 3 1", "as -1 6");
        refused(HOUSE, "STATE", "turn 1 0", "turn 1 4", "turn 1 8");
        refused(HOUSE, "BEYOND", "turn 1 9", "turn 1 -1", "turn 3 0", "turn 3 9");
        taken(NEARLY, "hours 1");
        refused(NEARLY, "STATE", "hours 2", "hours 100");
        refused(FULL, "STATE", "hours 1", "hours 100");
        refused(FULL, "BEYOND", "hours 0", "hours 101", "hours MAX", "hours MIN");
    }

    private static void findingsOfBills() {
        taken(NEARLY, "feed 53 1");
        refused(NEARLY, "FULL", "feed 53 2", "feed 53 4");
        refused(FULL, "FULL", "feed 53 1", "feed 53 4");
        refused(FULL, "BEYOND", "feed 53 0", "feed 53 5", "feed 53 MAX");
        refused(EMPTY, "BEYOND", "share 0", "bill 5 0", "other 5 0", "meters 2");
        refused("flat 0 0 50; flat 0 0 50", "NONE", "bill 5 0", "bill 0 1", "other 5 0", "other 0 1");
        refused(STIFF, "NONE", "bill 9999 0", "other 9999 0");
        refused(UNRULED, "NONE", "bill 5 0", "other 5 0");
        taken(UNUSED, "bill 5 0");
        refused(UNUSED, "NONE", "other 5 0");
        refused(STIFF, "BEYOND", "bill 10000 0", "bill -1 0", "bill 5 1", "other 10000 0", "other -1 0", "other 5 -1");
        refused(EMPTY, "NONE", "meters 1");
        taken(EMPTY, "meters 0");
    }

    private static void findingsOfWhatIsFelt() {
        refused(EMPTY, "BEYOND", "felt 0 0", "foretold 0 0", "works 0 1 1");
        refused(HOUSE, "BEYOND", "felt 3 -1", "even 1000000 51", "foretold -1 101", "setback 901 0", "works 3 0 0");
        refused(HOUSE, "NONE", "few 999999 1 0", "few 400399 8 4");
        refused(STIFF, "NONE", "few 190220 1 0", "few 190220 1 1", "few 190220 1 2", "few 190220 1 3",
            "few 190220 1 4");
        refused(STIFF, "BEYOND", "few 190220 0 0", "few 190220 9 0", "few 190220 1 -1", "few 190220 1 5", "few -1 1 0",
            "few 1000000 1 0");
    }

    private static void findingsOfComplaints() {
        refused(FULL, "FULL", "complain 0 1", "complain 11 2");
        refused(FULL, "BEYOND", "complain 0 0", "complain 0 3", "complain 12 1", "complain -1 1");
        refused(EMPTY, "BEYOND", "complain 0 1", "complaint 0 0", "joined 0 0");
        refused(HOUSE, "BEYOND", "complain 3 0", "complaint 3 4", "joined 3 3", "joined -1 3");
    }

    private static void findingsOfSheets() {
        refused(HOUSE, "BEYOND", "sheet 4 8 -1", "sheet -1 8 -1", "sheet 0 7 -1", "sheet 4 7 41", "sheet 4 0 0");
        refused(HOUSE, "SIZE", "sheet 0 0 -1", "sheet 3 0 -1");
        refused(HOUSE, "MISSING", "write 3 0 5", "write 3 -1 5", "write 3 40 5", "weather 3", "read 3");
        refused(HOUSE, "BEYOND", "write 4 0 5", "write -1 -1 5", "write MAX 0 5", "weather 4", "weather -1", "read 4",
            "read MIN");
        refused(EMPTY, "MISSING", "write 0 0 5", "weather 0", "read 0", "write 3 0 5", "weather 3", "read 3");
    }

    private static void findingsOfCopy() {
        refused(HOUSE, "BEYOND", "copy 4 0 0 0 1", "copy -1 0 0 0 1", "copy 0 0 4 0 1", "copy 0 0 -1 0 1");
        refused(HOUSE, "BEYOND", "copy 4 0 3 0 1", "copy 3 0 4 0 1", "copy 3 -1 -1 -1 -1", "copy MIN 0 MAX 0 0");
        refused(HOUSE, "MISSING", "copy 3 0 0 0 1", "copy 0 0 3 0 1", "copy 3 0 3 0 0", "copy 1 0 3 0 -1",
            "copy 3 9 1 9 9");
        refused(HOUSE, "KIND", "copy 0 0 1 0 1", "copy 1 0 0 0 0", "copy 0 -1 1 0 1", "copy 0 0 1 0 99",
            "copy 0 MIN 1 MAX MAX");
        taken(HOUSE, "copy 0 0 2 0 3", "copy 0 2 2 0 3", "copy 0 4 2 2 1", "copy 0 5 2 3 0", "copy 0 0 0 0 5",
            "copy 0 0 0 1 4", "copy 0 1 0 0 4");
        refused(HOUSE, "BEYOND", "copy 0 -1 2 0 1", "copy 0 0 2 -1 1", "copy 0 0 2 0 -1", "copy 0 1 2 1 -1",
            "copy 0 3 2 0 3", "copy 0 0 2 1 3", "copy 0 0 2 0 4", "copy 2 0 0 0 4", "copy 0 5 2 0 1", "copy 0 0 2 3 1",
            "copy 0 6 2 0 0", "copy 0 0 2 4 0");
        refused(HOUSE, "BEYOND", "copy 0 MAX 2 0 1", "copy 0 1 2 0 MAX", "copy 0 0 2 MAX 1", "copy 0 MAX 2 MAX MAX",
            "copy 0 MIN 2 0 1", "copy 0 0 2 MIN 1", "copy 0 0 2 0 MIN", "copy 0 MIN 2 MIN MIN");
        taken(FULL, "copy 0 0 1 0 40", "copy 2 39 3 0 1", "copy 2 40 3 40 0", "copy 2 0 2 20 20");
        refused(FULL, "BEYOND", "copy 0 0 1 0 41", "copy 0 1 1 0 40", "copy 0 0 1 1 40");
        refused(FULL, "KIND", "copy 1 0 2 0 1");
    }

    private static void findingsOfImages() {
        refused(EMPTY, "NONE", "undo");
        refused(TORN, "NONE", "undo");
        taken(TORN, "image", "tear");
        taken(HOUSE, "undo", "image", "tear", "wipe", "rule", "plain");
        taken(FULL, "undo", "image", "tear", "wipe", "rule", "plain");
        taken(EMPTY, "image", "tear", "wipe", "rule", "plain");
    }
}
