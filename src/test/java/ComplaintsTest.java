/** Promises 26 to 29: complaints, and how they join. */
public final class ComplaintsTest {
    public static void main(String[] args) {
        complain();
        joinByPlace();
        joinByHour();
        joinThroughALater();
        groups();
        Check.end();
    }

    /** Two risers, three flats above one another on each: 0, 1, 2 and 3, 4, 5. */
    private static WarmthShared house() {
        WarmthShared x = new WarmthShared();
        for (int i = 0; i < 6; i++) {
            x.flat(0, i / 3, 50);
        }
        return x;
    }

    private static void complain() {
        WarmthShared x = house();
        Check.due("26: flat 6", x.complain(6, 1), Check.BEYOND);
        Check.due("26: flat -1", x.complain(-1, 1), Check.BEYOND);
        Check.due("26: sort 0", x.complain(0, 0), Check.BEYOND);
        Check.due("26: sort 3", x.complain(0, 3), Check.BEYOND);
        Check.due("27: there is none", x.complaint(0, 0), Check.BEYOND);
        Check.due("26: the first", x.complain(5, 2), 0);
        x.hours(7);
        Check.due("26: the next", x.complain(3, 1), 1);
        int[][] due = {{5, 2, 0, 0}, {3, 1, 7, 1}};
        for (int k = 0; k < 2; k++) {
            for (int what = 0; what < 4; what++) {
                Check.due("27: complaint(" + k + ", " + what + ")", x.complaint(k, what), due[k][what]);
            }
        }
        Check.due("27: what 4", x.complaint(0, 4), Check.BEYOND);
        Check.due("27: what -1", x.complaint(0, -1), Check.BEYOND);
        Check.due("27: k 2", x.complaint(2, 0), Check.BEYOND);
        Check.due("27: k -1", x.complaint(-1, 0), Check.BEYOND);
        for (int k = 2; k < 24; k++) {
            Check.due("26: complain", x.complain(0, 1), k);
        }
        Check.due("26: a twenty-fifth", x.complain(0, 1), Check.FULL);
        Check.due("26: BEYOND is asked ahead of FULL", x.complain(0, 3), Check.BEYOND);
        Check.due("38: COMPLAINTS", x.count(3), 24);
    }

    private static void joinByPlace() {
        for (int a = 0; a < 6; a++) {
            for (int b = 0; b < 6; b++) {
                WarmthShared x = house();
                x.complain(a, 1);
                x.complain(b, 1);
                boolean isNear = a / 3 == b / 3 && Math.abs(a - b) <= 1;
                Check.due("28: of flats " + a + ", " + b, x.joined(0, 1), isNear ? 1 : 0);
                Check.due("28: the other way", x.joined(1, 0), isNear ? 1 : 0);
                Check.due("27: GROUP", x.complaint(1, 3), isNear ? 0 : 1);
                x.complain(b, 2);
                Check.due("28: of another sort", x.joined(1, 2), 0);
            }
        }
    }

    private static void joinByHour() {
        for (int apart = 1; apart < 6; apart++) {
            WarmthShared x = house();
            x.complain(0, 2);
            x.hours(apart);
            x.complain(1, 2);
            Check.due("28: " + apart + " hours apart", x.joined(0, 1), apart <= 3 ? 1 : 0);
        }
    }

    private static void joinThroughALater() {
        WarmthShared x = house();
        x.complain(4, 1);
        x.complain(0, 1);
        x.complain(2, 1);
        Check.due("29: three groups", x.groups(1), 3);
        x.hours(3);
        x.complain(1, 1);
        Check.due("29: joined with joined", x.groups(1), 2);
        Check.due("28: through the later one", x.joined(1, 2), 1);
        Check.due("27: the least of the group", x.complaint(2, 3), 1);
        Check.due("27: the least of the group", x.complaint(3, 3), 1);
        x.hours(3);
        x.complain(1, 1);
        Check.due("27: hour by hour", x.complaint(4, 3), 1);
        Check.due("28: the same flat, by way of others", x.joined(1, 4), 1);
        Check.due("28: with itself", x.joined(0, 0), 1);
        Check.due("28: a 5", x.joined(5, 0), Check.BEYOND);
        Check.due("28: b 5", x.joined(0, 5), Check.BEYOND);
        Check.due("28: a -1", x.joined(-1, 0), Check.BEYOND);
        Check.due("28: b -1", x.joined(0, -1), Check.BEYOND);
    }

    private static void groups() {
        WarmthShared x = house();
        Check.due("29: none", x.groups(0), 0);
        x.complain(0, 1);
        x.complain(0, 2);
        x.complain(2, 2);
        Check.due("29: COLD", x.groups(1), 1);
        Check.due("29: HOT", x.groups(2), 2);
        Check.due("29: both", x.groups(0), 3);
        Check.due("29: sort 3", x.groups(3), Check.BEYOND);
        Check.due("29: sort -1", x.groups(-1), Check.BEYOND);
    }
}
