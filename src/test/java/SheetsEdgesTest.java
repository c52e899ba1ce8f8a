/** Promises 30 to 34 at the edges: no numbers, 40 of them, lowest bits, copies over themselves, the last hour. */
public final class SheetsEdgesTest {
    public static void main(String[] args) {
        missingAtFirst();
        noNumbers();
        mostNumbers();
        missingAgain();
        anewAllAreNone();
        order();
        lowestBits();
        numbersLikeFindings();
        copyOfNone();
        copyOfAll();
        copyOverItself();
        copyIsNoLink();
        weatherAtItsBounds();
        weatherOfFewBits();
        weatherOfMany();
        weatherAtTheLastHour();
        readOfNone();
        readOfAll();
        readOfOneTooMany();
        readOfAllBits();
        Check.end();
    }

    private static void missingAtFirst() {
        for (int s = 0; s < 4; s++) {
            Calls.run("sheet " + s, "write " + s + " 0 1 = MISSING", "weather " + s + " = MISSING",
                "read " + s + " = MISSING", "copy " + s + " 0 " + s + " 0 0 = MISSING", "status 5 = 4; status -1 = 4");
        }
    }

    private static void noNumbers() {
        Calls.run("a sheet of none is not MISSING", "sheet 1 8 0 = 0; write 1 0 1 = BEYOND; weather 1 = 0; read 1 = 0",
            "copy 1 0 1 0 0 = 0; copy 1 0 1 0 1 = BEYOND; count 0 = 0; status 5 = 0");
    }

    private static void mostNumbers() {
        for (int bits : new int[] {8, 16, 64}) {
            Calls.run(bits + " bits", "sheet 0 " + bits + " 40 = 40", "write 0 39 5 = 0; write 0 39 0 = 5",
            "write 0 40 5 = BEYOND",
                "sheet 0 " + bits + " 41 = BEYOND", "write 0 39 1 = 0", "sheet 0 " + bits + " 1 = 1",
                "write 0 0 1 = 0; write 0 1 1 = BEYOND");
        }
    }

    private static void missingAgain() {
        Calls.run("bits 0", "sheet 2 16 7 = 7; sheet 3 8 2 = 2; sheet 2 0 7 = 0; write 2 0 1 = MISSING",
            "write 3 0 1 = 0",
            "sheet 2 0 0 = 0; sheet 2 0 40 = 0; sheet 2 0 41 = BEYOND; sheet 2 0 -1 = SIZE; sheet 2 64 3 = 3",
            "write 2 2 1 = 0");
    }

    private static void anewAllAreNone() {
        Calls.run("anew", "sheet 0 64 3; write 0 2 5 = 0; sheet 0 64 3 = 3; write 0 2 5 = 0");
        Calls.run("shorter, then longer", "sheet 0 64 3; write 0 2 5 = 0; sheet 0 64 1; sheet 0 64 3; write 0 2 0 = 0");
        Calls.run("MISSING, then there", "sheet 0 64 3; write 0 2 5 = 0; sheet 0 0 0; sheet 0 64 3; write 0 2 0 = 0");
    }

    private static void order() {
        Calls.run("no such sheet, other bits, SIZE, BEYOND", "sheet 4 9 -1 = BEYOND; sheet 0 9 -1 = BEYOND",
            "sheet 4 8 -1 = BEYOND",
            "sheet 0 8 -1 = SIZE; sheet 0 8 41 = BEYOND; sheet 0 8 MIN = SIZE; sheet 0 8 MAX = BEYOND; status 6 = 2");
        Calls.run("no such sheet, MISSING, no such number", "write 4 99 1 = BEYOND; write 0 99 1 = MISSING",
            "write 0 -1 1 = MISSING",
            "sheet 0 8 1; write 0 99 1 = BEYOND; write 0 1 1 = BEYOND; write 0 -1 1 = BEYOND; write 0 0 1 = 0");
        Calls.run("no such sheet, MISSING, KIND, BEYOND", "copy 4 0 0 0 9 = BEYOND; copy 0 0 4 0 9 = BEYOND",
            "sheet 1 8 1; sheet 2 16 1; copy 0 0 1 0 9 = MISSING; copy 1 0 0 0 9 = MISSING; copy 1 0 2 0 9 = KIND",
            "sheet 2 8 1; copy 1 0 2 0 9 = BEYOND; copy 1 0 2 0 1 = 1");
    }

    private static void lowestBits() {
        long[][] rows = {{8, -128, -128}, {8, -1, -1}, {8, 127, 127}, {8, 128, -128}, {8, 129, -127}, {8, 255, -1},
            {8, 256, 0}, {8, -129, 127}, {8, -256, 0}, {8, Long.MAX_VALUE, -1}, {8, Long.MIN_VALUE, 0},
            {16, -32768, -32768}, {16, 32767, 32767}, {16, 32768, -32768}, {16, 65535, -1}, {16, 65536, 0},
            {16, -32769, 32767}, {16, 128, 128}, {16, Long.MAX_VALUE, -1}, {16, Long.MIN_VALUE, 0},
            {64, Integer.MAX_VALUE + 1L, Integer.MAX_VALUE + 1L}, {64, Long.MAX_VALUE, Long.MAX_VALUE},
            {64, Long.MIN_VALUE, Long.MIN_VALUE}, {64, 65536, 65536}};
        for (long[] row : rows) {
            Calls.run(row[0] + " bits", "sheet 3 " + row[0] + " 2", "write 3 1 " + row[1] + " = 0",
                "write 3 1 0 = " + row[2], "write 3 0 0 = 0");
        }
    }

    private static void numbersLikeFindings() {
        Calls.run("no findings", "sheet 0 64 1; write 0 0 -1000000001 = 0; write 0 0 -1000000006 = -1000000001",
            "write 0 0 0 = -1000000006; status -1 = 0");
    }

    private static void copyOfNone() {
        Calls.run("0 at the ends", "sheet 0 8 3; sheet 1 8 2; copy 0 0 1 0 0 = 0; copy 0 3 1 2 0 = 0",
            "copy 0 4 1 0 0 = BEYOND",
            "copy 0 0 1 3 0 = BEYOND; copy 0 -1 1 0 0 = BEYOND; copy 0 0 1 -1 0 = BEYOND; copy 0 0 1 0 -1 = BEYOND");
    }

    private static void numbers(WarmthShared x, int s, int n) {
        for (int i = 0; i < n; i++) {
            x.write(s, i, i + 1);
        }
    }

    private static void copyOfAll() {
        WarmthShared x = Calls.run("40", "sheet 0 64 40; sheet 1 64 40");
        numbers(x, 0, 40);
        Calls.on(x, "40", "copy 0 0 1 0 41 = BEYOND; copy 0 0 1 0 40 = 40; write 1 0 0 = 1; write 1 39 0 = 40",
            "write 0 39 0 = 40");
        Calls.run("the last into the first", "sheet 0 8 40; sheet 1 8 1; write 0 39 7; copy 0 39 1 0 1 = 1",
            "write 1 0 0 = 7",
            "copy 0 39 1 0 2 = BEYOND; copy 0 40 1 0 1 = BEYOND; copy 1 0 0 39 1 = 1; write 0 39 0 = 0");
    }

    private static void copyOverItself() {
        for (int by = 1; by < 40; by += 6) {
            WarmthShared up = Calls.run("40", "sheet 2 16 40");
            numbers(up, 2, 40);
            Check.due("upwards by " + by, up.copy(2, 0, 2, by, 40 - by), 40 - by);
            WarmthShared down = Calls.run("40", "sheet 2 16 40");
            numbers(down, 2, 40);
            Check.due("downwards by " + by, down.copy(2, by, 2, 0, 40 - by), 40 - by);
            for (int i = 0; i < 40; i++) {
                Check.due("upwards by " + by + ", " + i, up.write(2, i, 0), i < by ? i + 1 : i + 1 - by);
                Check.due("downwards by " + by + ", " + i, down.write(2, i, 0), i < 40 - by ? i + 1 + by : i + 1);
            }
        }
        Calls.run("onto the same place", "sheet 0 8 2; write 0 0 4; write 0 1 5; copy 0 0 0 0 2 = 2; write 0 0 0 = 4",
            "write 0 1 0 = 5");
    }

    private static void copyIsNoLink() {
        Calls.run("later writing", "sheet 0 8 2; sheet 1 8 2; write 0 0 4; copy 0 0 1 0 2 = 2; write 0 0 9 = 4",
            "write 1 0 7 = 4; write 0 0 0 = 9; write 1 0 0 = 7");
    }

    private static void weatherAtItsBounds() {
        Calls.run("-300 and 400", "sheet 0 16 4; write 0 0 -301; write 0 1 -300; write 0 2 401; write 0 3 500",
            "weather 0 = 1",
            "count 0 = 1; set 0 0 = -300; write 0 1 400; weather 0 = 1; set 0 0 = 400; write 0 1 401; weather 0 = 0",
            "set 0 7 = 0; count 0 = 2; status -1 = 0");
        Calls.run("none is right", "sheet 0 64 2; write 0 0 4294967296; write 0 1 -9223372036854775808; weather 0 = 0",
            "count 0 = 0; set 0 7 = 50");
    }

    private static void weatherOfFewBits() {
        // 200 is -56 of 8 bits
        Calls.run("8 bits", "flat 0 0 50; set 1 0; sheet 0 8 1; write 0 0 200; weather 0 = 1; set 0 0 = -56",
            "of 0 7 = 188");
    }

    private static void weatherOfMany() {
        WarmthShared x = Calls.run("40", "flat 0 0 50; set 1 0; sheet 0 16 40");
        WarmthShared y = Calls.run("hour by hour", "flat 0 0 50; set 1 0");
        for (int i = 0; i < 40; i++) {
            x.write(0, i, 17 * i - 300);
            y.set(0, 17 * i - 300);
            y.hours(1);
        }
        Calls.on(x, "40", "weather 0 = 40; count 0 = 40", "of 0 7 = " + y.of(0, 7), "set 0 0 = 363");
    }

    private static void weatherAtTheLastHour() {
        String late = "19x hours 100; hours 99; sheet 0 8 3; write 0 0 10; write 0 1 11; write 0 2 12;";
        Calls.run("at 1999", late, "weather 0 = 1; count 0 = 2000; set 0 0 = 10; weather 0 = 0; set 0 0 = 0",
            "status -1 = 0");
        Calls.run("at 2000", late, "hours 1; weather 0 = 0; set 0 0 = 50; status -1 = 0; weather 4 = BEYOND",
            "weather 1 = MISSING");
        Calls.run("one that is left out takes no hour", late, "sheet 0 16 3; write 0 0 999; write 0 1 11; write 0 2 12;"
            + "weather 0 = 1; set 0 0 = 11");
    }

    private static void readOfNone() {
        Calls.run("no flats, no numbers", "sheet 0 8 0; read 0 = 0");
        Calls.run("no flats, a number", "sheet 0 16 1; read 0 = 1; write 0 0 200; read 0 = 1");
        Calls.run("flats, no numbers", "flat 0 0 50; sheet 0 8 0; read 0 = 0; status -1 = 0");
    }

    private static void readOfAll() {
        WarmthShared x = Calls.run("twelve", "12x flat 0 0 50; sheet 0 16 12");
        for (int i = 0; i < 12; i++) {
            Check.due("the first that is not right", x.read(0), i + 1);
            x.write(0, i, 200);
        }
        Calls.on(x, "all are", "read 0 = 0; write 0 11 199; read 0 = 12; write 0 11 201; read 0 = 12; write 0 0 199",
            "read 0 = 1");
    }

    private static void readOfOneTooMany() {
        WarmthShared x = Calls.run("twelve", "12x flat 0 0 50; sheet 0 16 13");
        for (int i = 0; i < 13; i++) {
            x.write(0, i, 200);
        }
        Calls.on(x, "a thirteenth", "read 0 = 13; write 0 5 0; read 0 = 6");
        Calls.run("fewer than flats", "12x flat 0 0 50; sheet 0 16 1; write 0 0 200; read 0 = 0; write 0 0 199",
            "read 0 = 1");
    }

    private static void readOfAllBits() {
        Calls.run("64 bits", "flat 0 0 50; sheet 0 64 1; write 0 0 4294967496; read 0 = 1; write 0 0 200; read 0 = 0");
        Calls.run("8 bits", "flat 0 0 50; sheet 0 8 1; write 0 0 200; read 0 = 1");
        Calls.run("below 0", "flat 0 0 99; set 1 0; set 0 -300; hours 100; of 0 7 = -290; sheet 0 16 1",
            "write 0 0 -290; read 0 = 0; sheet 0 8 1; write 0 0 -290; read 0 = 1");
    }
}
