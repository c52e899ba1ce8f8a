/** Promises 30 to 34: sheets, weather from one, the reader. */
public final class SheetsTest {
    public static void main(String[] args) {
        sheet();
        write();
        copy();
        copyRefuses();
        weather();
        weatherEnds();
        read();
        Check.end();
    }

    private static void sheet() {
        WarmthShared x = new WarmthShared();
        Check.due("30: s -1", x.sheet(-1, 8, 1), Check.BEYOND);
        Check.due("30: s 4", x.sheet(4, 8, 1), Check.BEYOND);
        Check.due("30: bits 32", x.sheet(0, 32, 1), Check.BEYOND);
        Check.due("30: bits -8", x.sheet(0, -8, 1), Check.BEYOND);
        Check.due("30: BEYOND of bits is asked ahead of SIZE", x.sheet(0, 1, -1), Check.BEYOND);
        Check.due("30: n -1", x.sheet(0, 8, -1), Check.SIZE);
        Check.due("30: n -1 with bits 0", x.sheet(0, 0, -1), Check.SIZE);
        Check.due("30: n 41", x.sheet(0, 8, 41), Check.BEYOND);
        Check.due("30: n 41 with bits 0", x.sheet(0, 0, 41), Check.BEYOND);
        Check.due("30: still MISSING", x.write(0, 0, 1), Check.MISSING);
        Check.due("30: n 40", x.sheet(0, 64, 40), 40);
        Check.due("30: n 0", x.sheet(3, 16, 0), 0);
        Check.due("30: it is there", x.read(3), 0);
        x.write(0, 0, 4);
        x.write(0, 39, 5);
        Check.due("30: anew", x.sheet(0, 8, 40), 40);
        Check.due("30: all 0", x.write(0, 0, 6), 0);
        Check.due("30: all 0", x.write(0, 39, 6), 0);
        Check.due("30: a finding changes nothing", x.sheet(0, 8, 41), Check.BEYOND);
        Check.due("30: it is as it was", x.write(0, 39, 7), 6);
        Check.due("30: shorter", x.sheet(0, 8, 3), 3);
        Check.due("30: its last", x.write(0, 3, 1), Check.BEYOND);
        Check.due("30: bits 0", x.sheet(0, 0, 5), 0);
        Check.due("30: MISSING", x.write(0, 0, 1), Check.MISSING);
    }

    private static void write() {
        long[][] rows = {{8, 127, 127}, {8, 128, -128}, {8, 255, -1}, {8, 256, 0}, {8, -129, 127}, {16, 32767, 32767},
            {16, 32768, -32768}, {16, 65536 + 7, 7}, {16, -1, -1}, {64, Long.MIN_VALUE, Long.MIN_VALUE},
            {64, Long.MAX_VALUE, Long.MAX_VALUE}, {64, 1L << 33, 1L << 33}, {64, Check.BEYOND, Check.BEYOND}};
        WarmthShared x = new WarmthShared();
        for (long[] row : rows) {
            x.sheet(1, (int) row[0], 2);
            Check.due("31: write", x.write(1, 1, row[1]), 0);
            Check.due("31: of " + row[0] + " bits", x.write(1, 1, 0), row[2]);
            Check.due("31: the other stays", x.write(1, 0, 0), 0);
        }
        Check.due("31: a number like a finding is none", x.status(-1), 0);
        Check.due("31: s 4", x.write(4, 0, 0), Check.BEYOND);
        Check.due("31: s -1", x.write(-1, 0, 0), Check.BEYOND);
        Check.due("31: MISSING is asked ahead of BEYOND", x.write(0, -1, 0), Check.MISSING);
        Check.due("31: i 2", x.write(1, 2, 0), Check.BEYOND);
        Check.due("31: i -1", x.write(1, -1, 0), Check.BEYOND);
    }

    private static void fill(WarmthShared x, int s, int n) {
        for (int i = 0; i < n; i++) {
            x.write(s, i, i + 1);
        }
    }

    private static void dueNumbers(String call, WarmthShared x, int s, int... due) {
        for (int i = 0; i < due.length; i++) {
            Check.due("32: " + call + ", number " + i, x.write(s, i, due[i]), due[i]);
        }
    }

    private static void copy() {
        WarmthShared x = new WarmthShared();
        x.sheet(0, 16, 5);
        x.sheet(3, 16, 4);
        fill(x, 0, 5);
        Check.due("32: to another", x.copy(0, 2, 3, 1, 3), 3);
        dueNumbers("to another", x, 3, 0, 3, 4, 5);
        Check.due("32: upwards in itself", x.copy(0, 0, 0, 1, 4), 4);
        dueNumbers("upwards", x, 0, 1, 1, 2, 3, 4);
        Check.due("32: downwards in itself", x.copy(0, 1, 0, 0, 4), 4);
        dueNumbers("downwards", x, 0, 1, 2, 3, 4, 4);
        Check.due("32: none at the end", x.copy(0, 5, 3, 4, 0), 0);
    }

    private static void copyRefuses() {
        WarmthShared x = new WarmthShared();
        x.sheet(0, 16, 5);
        x.sheet(1, 8, 5);
        x.sheet(2, 16, 3);
        fill(x, 0, 5);
        Check.due("32: s 4", x.copy(4, 0, 0, 0, 1), Check.BEYOND);
        Check.due("32: t -1", x.copy(3, 0, -1, 0, 1), Check.BEYOND);
        Check.due("32: from MISSING", x.copy(3, 0, 0, 0, 1), Check.MISSING);
        Check.due("32: to MISSING", x.copy(0, 0, 3, 0, -1), Check.MISSING);
        Check.due("32: KIND is asked ahead of BEYOND", x.copy(0, -1, 1, 0, 1), Check.KIND);
        int[][] beyond = {{-1, 0, 1}, {0, -1, 1}, {0, 0, -1}, {3, 0, 3}, {0, 1, 3}, {6, 0, 0}, {0, 4, 0},
            {Integer.MAX_VALUE, 0, 1}, {0, Integer.MAX_VALUE, 1}, {1, 1, Integer.MAX_VALUE}, {0, 0, Integer.MIN_VALUE}};
        for (int[] row : beyond) {
            Check.due("32: copy(0, " + row[0] + ", 2, " + row[1] + ", " + row[2] + ")",
                x.copy(0, row[0], 2, row[1], row[2]), Check.BEYOND);
        }
        dueNumbers("nothing came", x, 2, 0, 0, 0);
    }

    private static void weather() {
        WarmthShared x = new WarmthShared();
        x.flat(0, 0, 50);
        x.set(1, 0);
        Check.due("33: s 4", x.weather(4), Check.BEYOND);
        Check.due("33: s -1", x.weather(-1), Check.BEYOND);
        Check.due("33: MISSING", x.weather(0), Check.MISSING);
        x.sheet(0, 64, 7);
        long[] numbers = {-300, 401, 400, -301, 1L << 32, Long.MIN_VALUE, 100};
        for (int i = 0; i < numbers.length; i++) {
            x.write(0, i, numbers[i]);
        }
        Check.due("33: weather(0)", x.weather(0), 3);
        Check.due("33: NOW", x.count(0), 3);
        // OUT 25, 50 * -225 / 1000 = -11, 50 * 86 / 1000 = 4
        Check.due("33: WARM", x.of(0, 7), 182);
        Check.due("33: OUTSIDE stays what came last", x.set(0, 0), 100);
        x.sheet(0, 8, 0);
        Check.due("33: none", x.weather(0), 0);
    }

    private static void weatherEnds() {
        WarmthShared x = new WarmthShared();
        for (int i = 0; i < 19; i++) {
            x.hours(100);
        }
        x.hours(98);
        x.sheet(2, 8, 5);
        fill(x, 2, 5);
        Check.due("33: to 2000", x.weather(2), 2);
        Check.due("33: NOW", x.count(0), 2000);
        Check.due("33: no more came", x.set(0, 77), 2);
        Check.due("33: at 2000", x.weather(2), 0);
        Check.due("33: OUTSIDE stays", x.set(0, 77), 77);
        Check.due("33: which is no finding", x.status(-1), 0);
    }

    private static void read() {
        WarmthShared x = new WarmthShared();
        Check.due("34: s 4", x.read(4), Check.BEYOND);
        Check.due("34: s -1", x.read(-1), Check.BEYOND);
        Check.due("34: MISSING", x.read(0), Check.MISSING);
        x.sheet(0, 16, 1);
        x.write(0, 0, 200);
        Check.due("34: it stands for no FLAT", x.read(0), 1);
        x.flat(0, 0, 50);
        x.flat(0, 0, 50);
        Check.due("34: fewer than FLATS", x.read(0), 0);
        x.sheet(0, 16, 3);
        x.write(0, 0, 200);
        x.write(0, 1, 201);
        Check.due("34: not right", x.read(0), 2);
        x.write(0, 1, 200);
        Check.due("34: one too many", x.read(0), 3);
        x.sheet(0, 16, 2);
        x.write(0, 0, 200);
        x.write(0, 1, 200);
        Check.due("34: all right", x.read(0), 0);
        x.sheet(0, 8, 1);
        x.write(0, 0, 200);
        Check.due("34: 8 bits hold no 200", x.read(0), 1);
        x.sheet(0, 64, 1);
        x.write(0, 0, (1L << 32) + 200);
        Check.due("34: all 64 bits count", x.read(0), 1);
        x.sheet(0, 8, 0);
        Check.due("34: no numbers", x.read(0), 0);
    }
}
