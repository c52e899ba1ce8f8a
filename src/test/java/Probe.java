/** All that calls can tell of an object, in three parts, for an object is used for at most 512 calls. */
final class Probe {
    static final int PARTS = 3;

    private final Object x;
    private final StringBuilder told = new StringBuilder();

    private Probe(Object x) {
        this.x = x;
    }

    /** The object is spent behind this: sheets are written over, THE TAPE becomes THE RULE. */
    static String tell(Object x, int part) {
        Probe p = new Probe(x);
        if (part == 0) {
            p.house();
        } else if (part == 1) {
            p.sheets();
            p.texts();
        } else {
            p.ask("undo");
            p.house();
            p.ask("tear");
        }
        return p.told.toString();
    }

    private long ask(String call) {
        long answer = Calls.ask(x, call);
        told.append(call).append(" = ").append(answer).append('\n');
        return answer;
    }

    private void house() {
        for (int what = 0; what <= 8; what++) {
            ask("count " + what);
        }
        for (int r = 0; r < 4; r++) {
            ask("riser " + r);
        }
        long flats = Calls.ask(x, "count 1");
        for (int i = 0; i < flats; i++) {
            for (int what = 0; what <= 14; what++) {
                ask("of " + i + " " + what);
            }
            ask("share " + i);
        }
        long complaints = Calls.ask(x, "count 3");
        for (int k = 0; k < complaints; k++) {
            for (int what = 0; what <= 3; what++) {
                ask("complaint " + k + " " + what);
            }
        }
        ask("set 0 0");
        ask("set 1 1");
        ask("set 2 2");
        ask("plain");
    }

    private void sheets() {
        for (int s = 0; s < 4; s++) {
            for (int i = 0; i < 41; i++) {
                ask("write " + s + " " + i + " 1099511631873");
            }
            // what is left of it tells how many bits the sheet has
            ask("write " + s + " 0 0");
        }
    }

    private void texts() {
        shares();
        ask("count 4");
        ask("rule");
        ask("wipe");
        shares();
    }

    private void shares() {
        for (int i = 0; i < 12; i++) {
            ask("share " + i);
        }
    }
}
