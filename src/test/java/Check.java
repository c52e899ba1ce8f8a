/** What the tests share: answers against those that are due, and texts onto THE TAPE. */
final class Check {
    static final int BEYOND = -1000000001;
    static final int FULL = -1000000002;
    static final int KIND = -1000000003;
    static final int NONE = -1000000004;
    static final int STATE = -1000000005;
    static final int MISSING = -1000000006;
    static final int SIZE = -1000000007;

    private static int wrong = 0;

    private Check() {
    }

    static void due(String call, long got, long want) {
        if (got != want) {
            fail(call + " answered " + got + ", due is " + want);
        }
    }

    static void fail(String what) {
        wrong++;
        System.out.println(what);
    }

    static void end() {
        System.out.println(wrong == 0 ? "all answers are as due" : wrong + " answers are not as due");
        if (wrong != 0) {
            System.exit(1);
        }
    }

    static void tape(WarmthShared x, String text) {
        x.wipe();
        for (int i = 0; i < text.length(); i++) {
            due("feed of " + text, x.feed(text.charAt(i), 1), i + 1);
        }
    }

    /** What rule() answers with a text on THE TAPE, which is empty behind it. */
    static int rule(WarmthShared x, String text) {
        tape(x, text);
        int answer = x.rule();
        due("wipe() behind rule() of " + text, x.wipe(), answer == 0 ? 0 : text.length());
        return answer;
    }

    /** A TEXT of some length whose value is known. */
    static String sumOfOnes(int ones) {
        StringBuilder text = new StringBuilder("1");
        for (int i = 1; i < ones; i++) {
            text.append("+1");
        }
        return text.toString();
    }
}
