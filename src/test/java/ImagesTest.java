/** Promises 35 to 39: images, counts, findings. */
public final class ImagesTest {
    public static void main(String[] args) {
        imageKeeps();
        undoStays();
        undoLeaves();
        undoOfFlats();
        undoOfHeldAndOpen();
        undoOfGroups();
        tear();
        count();
        status();
        statusOfEach();
        Check.end();
    }

    private static WarmthShared house() {
        WarmthShared x = new WarmthShared();
        x.flat(0, 0, 50);
        x.flat(1, 0, 60);
        x.flat(5, 1, 70);
        x.drift(0, 50);
        x.turn(0, 0);
        x.hours(3);
        x.complain(0, 1);
        Check.rule(x, "u+3");
        return x;
    }

    private static String all(WarmthShared x) {
        StringBuilder text = new StringBuilder();
        for (int what : new int[] {0, 1, 2, 3, 5, 6, 7, 8}) {
            text.append(x.count(what)).append(' ');
        }
        for (int i = 0; i < x.count(1); i++) {
            for (int what = 0; what < 15; what++) {
                text.append(x.of(i, what)).append(' ');
            }
            text.append(x.share(i)).append(' ').append(x.foretold(i, 5)).append(' ');
        }
        for (int k = 0; k < x.count(3); k++) {
            for (int what = 0; what < 4; what++) {
                text.append(x.complaint(k, what)).append(' ');
            }
        }
        for (int r = 0; r < 4; r++) {
            text.append(x.riser(r)).append(' ');
        }
        return text.toString();
    }

    private static void dueAll(String when, WarmthShared x, String due) {
        if (!all(x).equals(due)) {
            Check.fail(when + ": " + all(x) + ", due is " + due);
        }
    }

    private static void changeAll(WarmthShared x) {
        x.set(0, -100);
        x.set(1, 500);
        x.set(2, 300);
        x.turn(0, 7);
        x.hold(1, true);
        x.window(2, true);
        x.drift(2, 3);
        x.flat(4, 3, 9);
        x.flat(0, 0, 9);
        x.complain(1, 1);
        x.complain(2, 2);
        x.hours(9);
        x.plain();
    }

    private static void imageKeeps() {
        WarmthShared x = house();
        String due = all(x);
        Check.due("35: image()", x.image(), 1);
        dueAll("35: an image changes nothing", x, due);
        changeAll(x);
        Check.due("36: undo()", x.undo(), 3);
        dueAll("36: as it was", x, due);
        Check.due("36: OUTSIDE", x.set(0, 50), 50);
        Check.due("36: PUMP", x.set(1, 100), 100);
        Check.due("36: BOILER", x.set(2, 600), 600);
        Check.due("36: THE RULE", x.plain(), 1);
    }

    private static void undoStays() {
        WarmthShared x = house();
        String due = all(x);
        x.image();
        changeAll(x);
        x.undo();
        changeAll(x);
        Check.due("36: a second time", x.undo(), 3);
        dueAll("36: what was kept stays", x, due);
        x.hours(2);
        String later = all(x);
        Check.due("35: a later one", x.image(), 1);
        changeAll(x);
        Check.due("36: the latest", x.undo(), 5);
        dueAll("36: the latest", x, later);
    }

    private static void undoLeaves() {
        WarmthShared x = house();
        x.feed('1', 1);
        x.sheet(0, 8, 2);
        x.image();
        x.feed('2', 1);
        x.write(0, 1, 9);
        x.sheet(1, 16, 3);
        x.turn(-1, 0);
        x.undo();
        Check.due("35: THE TAPE is not kept", x.count(4), 2);
        Check.due("35: sheets are not kept", x.write(0, 1, 0), 9);
        Check.due("35: nor their sizes", x.write(1, 2, 0), 0);
        Check.due("39: undo() takes none back", x.status(-1), 1);
    }

    private static void undoOfFlats() {
        WarmthShared x = new WarmthShared();
        x.image();
        x.flat(0, 0, 50);
        x.turn(0, 8);
        x.drift(0, 1);
        x.hold(0, true);
        x.window(0, true);
        x.hours(5);
        Check.due("36: undo() to none", x.undo(), 0);
        Check.due("36: no FLATS", x.of(0, 0), Check.BEYOND);
        Check.due("2: a new one", x.flat(3, 1, 40), 0);
        int[] due = {3, 1, 0, 40, 4, 0, 0, 200, 40, 2, 100, 0, 0, 0, 100};
        for (int what = 0; what < due.length; what++) {
            Check.due("2: as at first, of(0, " + what + ")", x.of(0, what), due[what]);
        }
    }

    private static void undoOfHeldAndOpen() {
        WarmthShared x = house();
        x.hold(0, true);
        x.window(0, true);
        String due = all(x);
        x.image();
        x.hold(0, false);
        x.window(0, false);
        x.hold(1, true);
        x.window(1, true);
        x.undo();
        dueAll("36: HELD and windows", x, due);
    }

    private static void undoOfGroups() {
        WarmthShared x = new WarmthShared();
        for (int i = 0; i < 3; i++) {
            x.flat(0, 0, 50);
            x.complain(i, 1 + i % 2);
        }
        x.image();
        x.complain(1, 1);
        Check.due("28: joined by a later one", x.joined(0, 2), 1);
        x.undo();
        Check.due("36: COMPLAINTS", x.count(3), 3);
        Check.due("36: apart again", x.joined(0, 2), 0);
        Check.due("36: two of them COLD", x.groups(1), 2);
    }

    private static void tear() {
        WarmthShared x = house();
        Check.due("37: nothing was", x.tear(), 0);
        x.image();
        Check.due("37: tear()", x.tear(), 1);
        Check.due("37: tear()", x.tear(), 0);
        Check.due("36: nothing is kept", x.undo(), Check.NONE);
        Check.due("36: which changes nothing", x.count(0), 3);
        x.image();
        x.hours(1);
        Check.due("36: kept anew", x.undo(), 3);
    }

    private static void count() {
        WarmthShared x = house();
        x.hold(1, true);
        x.hold(2, true);
        x.feed(0, 3);
        int used = x.of(0, 11) + x.of(1, 11) + x.of(2, 11);
        int taken = x.of(0, 12) + x.of(1, 12) + x.of(2, 12);
        int flow = x.of(0, 10) + x.of(1, 10) + x.of(2, 10);
        int[] due = {3, 3, 2, 1, 3, used, taken, 0, flow};
        for (int what = 0; what < due.length; what++) {
            Check.due("38: count(" + what + ")", x.count(what), due[what]);
        }
        x.flat(0, 1, 1);
        Check.due("38: of like ones the least", x.count(7), 0);
        x.flat(0, 1, 1);
        Check.due("38: the most", x.count(7), 1);
        Check.due("38: count(9)", x.count(9), Check.BEYOND);
        Check.due("38: count(-1)", x.count(-1), Check.BEYOND);
    }

    private static void status() {
        WarmthShared x = new WarmthShared();
        Check.due("39: status(-1)", x.status(-1), 0);
        Check.due("39: status(7)", x.status(7), Check.BEYOND);
        Check.due("39: counted from then on", x.status(0), 1);
        Check.due("39: status(-2)", x.status(-2), Check.BEYOND);
        Check.due("39: counted too", x.status(-1), 2);
    }

    private static void statusOfEach() {
        WarmthShared x = new WarmthShared();
        x.flat(0, 0, 50);
        x.hold(0, true);
        x.sheet(0, 8, 1);
        x.sheet(1, 16, 1);
        for (int i = 0; i < 3; i++) {
            x.of(0, 99);
        }
        for (int i = 0; i < 24; i++) {
            x.complain(0, 1);
        }
        x.complain(0, 1);
        x.complain(0, 2);
        x.as(0, 1);
        x.copy(0, 0, 1, 0, 0);
        x.copy(1, 0, 0, 0, 0);
        x.as(0, 5);
        x.undo();
        x.turn(0, 0);
        x.turn(0, 1);
        x.turn(0, 2);
        x.turn(0, 3);
        x.turn(0, 4);
        x.read(2);
        x.weather(3);
        x.sheet(0, 0, -1);
        int[] due = {3, 2, 4, 1, 5, 2, 1};
        for (int which = 0; which < due.length; which++) {
            Check.due("39: status(" + which + ")", x.status(which), due[which]);
        }
        Check.due("39: all", x.status(-1), 18);
    }
}
